theorem d_R_canAdd_0 : decode prog_11_method_96_code 0 = .ok (.aload_n 0, 1) := by decide +kernel
theorem d_R_canAdd_1 : decode prog_11_method_96_code 1 = .ok (.iload_n 1, 1) := by decide +kernel
theorem d_R_canAdd_2 : decode prog_11_method_96_code 2 = .ok (.invokevirtual 379, 3) := by decide +kernel
theorem d_R_canAdd_5 : decode prog_11_method_96_code 5 = .ok (.ifCond .eq 30, 3) := by decide +kernel
theorem d_R_canAdd_8 : decode prog_11_method_96_code 8 = .ok (.iload_n 2, 1) := by decide +kernel
theorem d_R_canAdd_9 : decode prog_11_method_96_code 9 = .ok (.invokestatic 382, 3) := by decide +kernel
theorem d_R_canAdd_12 : decode prog_11_method_96_code 12 = .ok (.ifCond .eq 23, 3) := by decide +kernel
theorem d_R_canAdd_15 : decode prog_11_method_96_code 15 = .ok (.aload_n 0, 1) := by decide +kernel
theorem d_R_canAdd_16 : decode prog_11_method_96_code 16 = .ok (.getfield 7, 3) := by decide +kernel
theorem d_R_canAdd_19 : decode prog_11_method_96_code 19 = .ok (.bipush 10, 2) := by decide +kernel
theorem d_R_canAdd_21 : decode prog_11_method_96_code 21 = .ok (.iload_n 1, 1) := by decide +kernel
theorem d_R_canAdd_22 : decode prog_11_method_96_code 22 = .ok (.iadd, 1) := by decide +kernel
theorem d_R_canAdd_23 : decode prog_11_method_96_code 23 = .ok (.iaload, 1) := by decide +kernel
theorem d_R_canAdd_24 : decode prog_11_method_96_code 24 = .ok (.iload_n 2, 1) := by decide +kernel
theorem d_R_canAdd_25 : decode prog_11_method_96_code 25 = .ok (.invokestatic 94, 3) := by decide +kernel
theorem d_R_canAdd_28 : decode prog_11_method_96_code 28 = .ok (.ifCond .ne 7, 3) := by decide +kernel
theorem d_R_canAdd_31 : decode prog_11_method_96_code 31 = .ok (.iconst 1, 1) := by decide +kernel
theorem d_R_canAdd_32 : decode prog_11_method_96_code 32 = .ok (.goto 4, 3) := by decide +kernel
theorem d_R_canAdd_35 : decode prog_11_method_96_code 35 = .ok (.iconst 0, 1) := by decide +kernel
theorem d_R_canAdd_36 : decode prog_11_method_96_code 36 = .ok (.ireturn, 1) := by decide +kernel
theorem d_R_isMark_0 : decode prog_11_method_9_code 0 = .ok (.iload_n 1, 1) := by decide +kernel
theorem d_R_isMark_1 : decode prog_11_method_9_code 1 = .ok (.iconst 0, 1) := by decide +kernel
theorem d_R_isMark_2 : decode prog_11_method_9_code 2 = .ok (.aload_n 0, 1) := by decide +kernel
theorem d_R_isMark_3 : decode prog_11_method_9_code 3 = .ok (.getfield 7, 3) := by decide +kernel
theorem d_R_isMark_6 : decode prog_11_method_9_code 6 = .ok (.iconst 0, 1) := by decide +kernel
theorem d_R_isMark_7 : decode prog_11_method_9_code 7 = .ok (.iaload, 1) := by decide +kernel
theorem d_R_isMark_8 : decode prog_11_method_9_code 8 = .ok (.iconst 1, 1) := by decide +kernel
theorem d_R_isMark_9 : decode prog_11_method_9_code 9 = .ok (.isub, 1) := by decide +kernel
theorem d_R_isMark_10 : decode prog_11_method_9_code 10 = .ok (.invokestatic 89, 3) := by decide +kernel
theorem d_R_isMark_13 : decode prog_11_method_9_code 13 = .ok (.ireturn, 1) := by decide +kernel
theorem d_R_isStroke_0 : decode prog_11_method_10_code 0 = .ok (.iload_n 0, 1) := by decide +kernel
theorem d_R_isStroke_1 : decode prog_11_method_10_code 1 = .ok (.iconst 0, 1) := by decide +kernel
theorem d_R_isStroke_2 : decode prog_11_method_10_code 2 = .ok (.bipush 19, 2) := by decide +kernel
theorem d_R_isStroke_4 : decode prog_11_method_10_code 4 = .ok (.invokestatic 89, 3) := by decide +kernel
theorem d_R_isStroke_7 : decode prog_11_method_10_code 7 = .ok (.ireturn, 1) := by decide +kernel
theorem d_R_keep_0 : decode prog_11_method_103_code 0 = .ok (.aload_n 0, 1) := by decide +kernel
theorem d_R_keep_1 : decode prog_11_method_103_code 1 = .ok (.getfield 7, 3) := by decide +kernel
theorem d_R_keep_4 : decode prog_11_method_103_code 4 = .ok (.iconst 3, 1) := by decide +kernel
theorem d_R_keep_5 : decode prog_11_method_103_code 5 = .ok (.iaload, 1) := by decide +kernel
theorem d_R_keep_6 : decode prog_11_method_103_code 6 = .ok (.bipush 30, 2) := by decide +kernel
theorem d_R_keep_8 : decode prog_11_method_103_code 8 = .ok (.if_icmp .ne 46, 3) := by decide +kernel
theorem d_R_keep_11 : decode prog_11_method_103_code 11 = .ok (.iconst 0, 1) := by decide +kernel
theorem d_R_keep_12 : decode prog_11_method_103_code 12 = .ok (.istore_n 1, 1) := by decide +kernel
theorem d_R_keep_13 : decode prog_11_method_103_code 13 = .ok (.iload_n 1, 1) := by decide +kernel
theorem d_R_keep_14 : decode prog_11_method_103_code 14 = .ok (.sipush 1102, 3) := by decide +kernel
theorem d_R_keep_17 : decode prog_11_method_103_code 17 = .ok (.if_icmp .ge 27, 3) := by decide +kernel
theorem d_R_keep_20 : decode prog_11_method_103_code 20 = .ok (.aload_n 0, 1) := by decide +kernel
theorem d_R_keep_21 : decode prog_11_method_103_code 21 = .ok (.getfield 7, 3) := by decide +kernel
theorem d_R_keep_24 : decode prog_11_method_103_code 24 = .ok (.bipush 52, 2) := by decide +kernel
theorem d_R_keep_26 : decode prog_11_method_103_code 26 = .ok (.iload_n 1, 1) := by decide +kernel
theorem d_R_keep_27 : decode prog_11_method_103_code 27 = .ok (.iadd, 1) := by decide +kernel
theorem d_R_keep_28 : decode prog_11_method_103_code 28 = .ok (.aload_n 0, 1) := by decide +kernel
theorem d_R_keep_29 : decode prog_11_method_103_code 29 = .ok (.getfield 7, 3) := by decide +kernel
theorem d_R_keep_32 : decode prog_11_method_103_code 32 = .ok (.bipush 90, 2) := by decide +kernel
theorem d_R_keep_34 : decode prog_11_method_103_code 34 = .ok (.iload_n 1, 1) := by decide +kernel
theorem d_R_keep_35 : decode prog_11_method_103_code 35 = .ok (.iadd, 1) := by decide +kernel
theorem d_R_keep_36 : decode prog_11_method_103_code 36 = .ok (.iaload, 1) := by decide +kernel
theorem d_R_keep_37 : decode prog_11_method_103_code 37 = .ok (.iastore, 1) := by decide +kernel
theorem d_R_keep_38 : decode prog_11_method_103_code 38 = .ok (.iinc 1 1, 3) := by decide +kernel
theorem d_R_keep_41 : decode prog_11_method_103_code 41 = .ok (.goto (-28), 3) := by decide +kernel
theorem d_R_keep_44 : decode prog_11_method_103_code 44 = .ok (.aload_n 0, 1) := by decide +kernel
theorem d_R_keep_45 : decode prog_11_method_103_code 45 = .ok (.getfield 7, 3) := by decide +kernel
theorem d_R_keep_48 : decode prog_11_method_103_code 48 = .ok (.iconst 3, 1) := by decide +kernel
theorem d_R_keep_49 : decode prog_11_method_103_code 49 = .ok (.dup2, 1) := by decide +kernel
theorem d_R_keep_50 : decode prog_11_method_103_code 50 = .ok (.iaload, 1) := by decide +kernel
theorem d_R_keep_51 : decode prog_11_method_103_code 51 = .ok (.iconst 1, 1) := by decide +kernel
theorem d_R_keep_52 : decode prog_11_method_103_code 52 = .ok (.isub, 1) := by decide +kernel
theorem d_R_keep_53 : decode prog_11_method_103_code 53 = .ok (.iastore, 1) := by decide +kernel
theorem d_R_keep_54 : decode prog_11_method_103_code 54 = .ok (.bipush 52, 2) := by decide +kernel
theorem d_R_keep_56 : decode prog_11_method_103_code 56 = .ok (.bipush 38, 2) := by decide +kernel
theorem d_R_keep_58 : decode prog_11_method_103_code 58 = .ok (.aload_n 0, 1) := by decide +kernel
theorem d_R_keep_59 : decode prog_11_method_103_code 59 = .ok (.getfield 7, 3) := by decide +kernel
theorem d_R_keep_62 : decode prog_11_method_103_code 62 = .ok (.iconst 3, 1) := by decide +kernel
theorem d_R_keep_63 : decode prog_11_method_103_code 63 = .ok (.iaload, 1) := by decide +kernel
theorem d_R_keep_64 : decode prog_11_method_103_code 64 = .ok (.imul, 1) := by decide +kernel
theorem d_R_keep_65 : decode prog_11_method_103_code 65 = .ok (.iadd, 1) := by decide +kernel
theorem d_R_keep_66 : decode prog_11_method_103_code 66 = .ok (.istore_n 1, 1) := by decide +kernel
theorem d_R_keep_67 : decode prog_11_method_103_code 67 = .ok (.aload_n 0, 1) := by decide +kernel
theorem d_R_keep_68 : decode prog_11_method_103_code 68 = .ok (.getfield 7, 3) := by decide +kernel
theorem d_R_keep_71 : decode prog_11_method_103_code 71 = .ok (.iload_n 1, 1) := by decide +kernel
theorem d_R_keep_72 : decode prog_11_method_103_code 72 = .ok (.aload_n 0, 1) := by decide +kernel
theorem d_R_keep_73 : decode prog_11_method_103_code 73 = .ok (.getfield 7, 3) := by decide +kernel
theorem d_R_keep_76 : decode prog_11_method_103_code 76 = .ok (.iconst 0, 1) := by decide +kernel
theorem d_R_keep_77 : decode prog_11_method_103_code 77 = .ok (.iaload, 1) := by decide +kernel
theorem d_R_keep_78 : decode prog_11_method_103_code 78 = .ok (.iastore, 1) := by decide +kernel
theorem d_R_keep_79 : decode prog_11_method_103_code 79 = .ok (.iconst 0, 1) := by decide +kernel
theorem d_R_keep_80 : decode prog_11_method_103_code 80 = .ok (.istore_n 2, 1) := by decide +kernel
theorem d_R_keep_81 : decode prog_11_method_103_code 81 = .ok (.iload_n 2, 1) := by decide +kernel
theorem d_R_keep_82 : decode prog_11_method_103_code 82 = .ok (.bipush 12, 2) := by decide +kernel
theorem d_R_keep_84 : decode prog_11_method_103_code 84 = .ok (.if_icmp .ge 28, 3) := by decide +kernel
theorem d_R_keep_87 : decode prog_11_method_103_code 87 = .ok (.aload_n 0, 1) := by decide +kernel
theorem d_R_keep_88 : decode prog_11_method_103_code 88 = .ok (.getfield 7, 3) := by decide +kernel
theorem d_R_keep_91 : decode prog_11_method_103_code 91 = .ok (.iload_n 1, 1) := by decide +kernel
theorem d_R_keep_92 : decode prog_11_method_103_code 92 = .ok (.iconst 1, 1) := by decide +kernel
theorem d_R_keep_93 : decode prog_11_method_103_code 93 = .ok (.iadd, 1) := by decide +kernel
theorem d_R_keep_94 : decode prog_11_method_103_code 94 = .ok (.iload_n 2, 1) := by decide +kernel
theorem d_R_keep_95 : decode prog_11_method_103_code 95 = .ok (.iadd, 1) := by decide +kernel
theorem d_R_keep_96 : decode prog_11_method_103_code 96 = .ok (.aload_n 0, 1) := by decide +kernel
theorem d_R_keep_97 : decode prog_11_method_103_code 97 = .ok (.getfield 7, 3) := by decide +kernel
theorem d_R_keep_100 : decode prog_11_method_103_code 100 = .ok (.bipush 6, 2) := by decide +kernel
theorem d_R_keep_102 : decode prog_11_method_103_code 102 = .ok (.iload_n 2, 1) := by decide +kernel
theorem d_R_keep_103 : decode prog_11_method_103_code 103 = .ok (.iadd, 1) := by decide +kernel
theorem d_R_keep_104 : decode prog_11_method_103_code 104 = .ok (.iaload, 1) := by decide +kernel
theorem d_R_keep_105 : decode prog_11_method_103_code 105 = .ok (.iastore, 1) := by decide +kernel
theorem d_R_keep_106 : decode prog_11_method_103_code 106 = .ok (.iinc 2 1, 3) := by decide +kernel
theorem d_R_keep_109 : decode prog_11_method_103_code 109 = .ok (.goto (-28), 3) := by decide +kernel
theorem d_R_keep_112 : decode prog_11_method_103_code 112 = .ok (.iconst 0, 1) := by decide +kernel
theorem d_R_keep_113 : decode prog_11_method_103_code 113 = .ok (.istore_n 2, 1) := by decide +kernel
theorem d_R_keep_114 : decode prog_11_method_103_code 114 = .ok (.iload_n 2, 1) := by decide +kernel
theorem d_R_keep_115 : decode prog_11_method_103_code 115 = .ok (.bipush 25, 2) := by decide +kernel
theorem d_R_keep_117 : decode prog_11_method_103_code 117 = .ok (.if_icmp .ge 32, 3) := by decide +kernel
theorem d_R_keep_120 : decode prog_11_method_103_code 120 = .ok (.aload_n 0, 1) := by decide +kernel
theorem d_R_keep_121 : decode prog_11_method_103_code 121 = .ok (.getfield 7, 3) := by decide +kernel
theorem d_R_keep_124 : decode prog_11_method_103_code 124 = .ok (.iload_n 1, 1) := by decide +kernel
theorem d_R_keep_125 : decode prog_11_method_103_code 125 = .ok (.iconst 1, 1) := by decide +kernel
theorem d_R_keep_126 : decode prog_11_method_103_code 126 = .ok (.iadd, 1) := by decide +kernel
theorem d_R_keep_127 : decode prog_11_method_103_code 127 = .ok (.bipush 12, 2) := by decide +kernel
theorem d_R_keep_129 : decode prog_11_method_103_code 129 = .ok (.iadd, 1) := by decide +kernel
theorem d_R_keep_130 : decode prog_11_method_103_code 130 = .ok (.iload_n 2, 1) := by decide +kernel
theorem d_R_keep_131 : decode prog_11_method_103_code 131 = .ok (.iadd, 1) := by decide +kernel
theorem d_R_keep_132 : decode prog_11_method_103_code 132 = .ok (.aload_n 0, 1) := by decide +kernel
theorem d_R_keep_133 : decode prog_11_method_103_code 133 = .ok (.getfield 7, 3) := by decide +kernel
theorem d_R_keep_136 : decode prog_11_method_103_code 136 = .ok (.sipush 1192, 3) := by decide +kernel
theorem d_R_keep_139 : decode prog_11_method_103_code 139 = .ok (.iload_n 2, 1) := by decide +kernel
theorem d_R_keep_140 : decode prog_11_method_103_code 140 = .ok (.iadd, 1) := by decide +kernel
theorem d_R_keep_141 : decode prog_11_method_103_code 141 = .ok (.iaload, 1) := by decide +kernel
theorem d_R_keep_142 : decode prog_11_method_103_code 142 = .ok (.iastore, 1) := by decide +kernel
theorem d_R_keep_143 : decode prog_11_method_103_code 143 = .ok (.iinc 2 1, 3) := by decide +kernel
theorem d_R_keep_146 : decode prog_11_method_103_code 146 = .ok (.goto (-32), 3) := by decide +kernel
theorem d_R_keep_149 : decode prog_11_method_103_code 149 = .ok (.aload_n 0, 1) := by decide +kernel
theorem d_R_keep_150 : decode prog_11_method_103_code 150 = .ok (.getfield 7, 3) := by decide +kernel
theorem d_R_keep_153 : decode prog_11_method_103_code 153 = .ok (.iconst 3, 1) := by decide +kernel
theorem d_R_keep_154 : decode prog_11_method_103_code 154 = .ok (.dup2, 1) := by decide +kernel
theorem d_R_keep_155 : decode prog_11_method_103_code 155 = .ok (.iaload, 1) := by decide +kernel
theorem d_R_keep_156 : decode prog_11_method_103_code 156 = .ok (.iconst 1, 1) := by decide +kernel
theorem d_R_keep_157 : decode prog_11_method_103_code 157 = .ok (.iadd, 1) := by decide +kernel
theorem d_R_keep_158 : decode prog_11_method_103_code 158 = .ok (.iastore, 1) := by decide +kernel
theorem d_R_keep_159 : decode prog_11_method_103_code 159 = .ok (.return_, 1) := by decide +kernel
theorem d_R_addNow_0 : decode prog_11_method_97_code 0 = .ok (.aload_n 0, 1) := by decide +kernel
theorem d_R_addNow_1 : decode prog_11_method_97_code 1 = .ok (.getfield 7, 3) := by decide +kernel
theorem d_R_addNow_4 : decode prog_11_method_97_code 4 = .ok (.bipush 10, 2) := by decide +kernel
theorem d_R_addNow_6 : decode prog_11_method_97_code 6 = .ok (.iload_n 1, 1) := by decide +kernel
theorem d_R_addNow_7 : decode prog_11_method_97_code 7 = .ok (.iadd, 1) := by decide +kernel
theorem d_R_addNow_8 : decode prog_11_method_97_code 8 = .ok (.dup2, 1) := by decide +kernel
theorem d_R_addNow_9 : decode prog_11_method_97_code 9 = .ok (.iaload, 1) := by decide +kernel
theorem d_R_addNow_10 : decode prog_11_method_97_code 10 = .ok (.iconst 1, 1) := by decide +kernel
theorem d_R_addNow_11 : decode prog_11_method_97_code 11 = .ok (.iload_n 2, 1) := by decide +kernel
theorem d_R_addNow_12 : decode prog_11_method_97_code 12 = .ok (.ishl, 1) := by decide +kernel
theorem d_R_addNow_13 : decode prog_11_method_97_code 13 = .ok (.ior, 1) := by decide +kernel
theorem d_R_addNow_14 : decode prog_11_method_97_code 14 = .ok (.iastore, 1) := by decide +kernel
theorem d_R_addNow_15 : decode prog_11_method_97_code 15 = .ok (.aload_n 0, 1) := by decide +kernel
theorem d_R_addNow_16 : decode prog_11_method_97_code 16 = .ok (.iload_n 1, 1) := by decide +kernel
theorem d_R_addNow_17 : decode prog_11_method_97_code 17 = .ok (.iconst 0, 1) := by decide +kernel
theorem d_R_addNow_18 : decode prog_11_method_97_code 18 = .ok (.iload_n 2, 1) := by decide +kernel
theorem d_R_addNow_19 : decode prog_11_method_97_code 19 = .ok (.invokevirtual 385, 3) := by decide +kernel
theorem d_R_addNow_22 : decode prog_11_method_97_code 22 = .ok (.return_, 1) := by decide +kernel
theorem d_R_write_0 : decode prog_11_method_93_code 0 = .ok (.aload_n 0, 1) := by decide +kernel
theorem d_R_write_1 : decode prog_11_method_93_code 1 = .ok (.getfield 61, 3) := by decide +kernel
theorem d_R_write_4 : decode prog_11_method_93_code 4 = .ok (.ifCond .ne 4, 3) := by decide +kernel
theorem d_R_write_7 : decode prog_11_method_93_code 7 = .ok (.return_, 1) := by decide +kernel
theorem d_R_write_8 : decode prog_11_method_93_code 8 = .ok (.aload_n 0, 1) := by decide +kernel
theorem d_R_write_9 : decode prog_11_method_93_code 9 = .ok (.getfield 7, 3) := by decide +kernel
theorem d_R_write_12 : decode prog_11_method_93_code 12 = .ok (.bipush 9, 2) := by decide +kernel
theorem d_R_write_14 : decode prog_11_method_93_code 14 = .ok (.iaload, 1) := by decide +kernel
theorem d_R_write_15 : decode prog_11_method_93_code 15 = .ok (.bipush 25, 2) := by decide +kernel
theorem d_R_write_17 : decode prog_11_method_93_code 17 = .ok (.if_icmp .ne 54, 3) := by decide +kernel
theorem d_R_write_20 : decode prog_11_method_93_code 20 = .ok (.iconst 1, 1) := by decide +kernel
theorem d_R_write_21 : decode prog_11_method_93_code 21 = .ok (.istore 4, 2) := by decide +kernel
theorem d_R_write_23 : decode prog_11_method_93_code 23 = .ok (.iload 4, 2) := by decide +kernel
theorem d_R_write_25 : decode prog_11_method_93_code 25 = .ok (.bipush 25, 2) := by decide +kernel
theorem d_R_write_27 : decode prog_11_method_93_code 27 = .ok (.if_icmp .ge 33, 3) := by decide +kernel
theorem d_R_write_30 : decode prog_11_method_93_code 30 = .ok (.aload_n 0, 1) := by decide +kernel
theorem d_R_write_31 : decode prog_11_method_93_code 31 = .ok (.getfield 7, 3) := by decide +kernel
theorem d_R_write_34 : decode prog_11_method_93_code 34 = .ok (.sipush 1192, 3) := by decide +kernel
theorem d_R_write_37 : decode prog_11_method_93_code 37 = .ok (.iload 4, 2) := by decide +kernel
theorem d_R_write_39 : decode prog_11_method_93_code 39 = .ok (.iadd, 1) := by decide +kernel
theorem d_R_write_40 : decode prog_11_method_93_code 40 = .ok (.iconst 1, 1) := by decide +kernel
theorem d_R_write_41 : decode prog_11_method_93_code 41 = .ok (.isub, 1) := by decide +kernel
theorem d_R_write_42 : decode prog_11_method_93_code 42 = .ok (.aload_n 0, 1) := by decide +kernel
theorem d_R_write_43 : decode prog_11_method_93_code 43 = .ok (.getfield 7, 3) := by decide +kernel
theorem d_R_write_46 : decode prog_11_method_93_code 46 = .ok (.sipush 1192, 3) := by decide +kernel
theorem d_R_write_49 : decode prog_11_method_93_code 49 = .ok (.iload 4, 2) := by decide +kernel
theorem d_R_write_51 : decode prog_11_method_93_code 51 = .ok (.iadd, 1) := by decide +kernel
theorem d_R_write_52 : decode prog_11_method_93_code 52 = .ok (.iaload, 1) := by decide +kernel
theorem d_R_write_53 : decode prog_11_method_93_code 53 = .ok (.iastore, 1) := by decide +kernel
theorem d_R_write_54 : decode prog_11_method_93_code 54 = .ok (.iinc 4 1, 3) := by decide +kernel
theorem d_R_write_57 : decode prog_11_method_93_code 57 = .ok (.goto (-34), 3) := by decide +kernel
theorem d_R_write_60 : decode prog_11_method_93_code 60 = .ok (.aload_n 0, 1) := by decide +kernel
theorem d_R_write_61 : decode prog_11_method_93_code 61 = .ok (.getfield 7, 3) := by decide +kernel
theorem d_R_write_64 : decode prog_11_method_93_code 64 = .ok (.bipush 9, 2) := by decide +kernel
theorem d_R_write_66 : decode prog_11_method_93_code 66 = .ok (.dup2, 1) := by decide +kernel
theorem d_R_write_67 : decode prog_11_method_93_code 67 = .ok (.iaload, 1) := by decide +kernel
theorem d_R_write_68 : decode prog_11_method_93_code 68 = .ok (.iconst 1, 1) := by decide +kernel
theorem d_R_write_69 : decode prog_11_method_93_code 69 = .ok (.isub, 1) := by decide +kernel
theorem d_R_write_70 : decode prog_11_method_93_code 70 = .ok (.iastore, 1) := by decide +kernel
theorem d_R_write_71 : decode prog_11_method_93_code 71 = .ok (.aload_n 0, 1) := by decide +kernel
theorem d_R_write_72 : decode prog_11_method_93_code 72 = .ok (.getfield 7, 3) := by decide +kernel
theorem d_R_write_75 : decode prog_11_method_93_code 75 = .ok (.sipush 1192, 3) := by decide +kernel
theorem d_R_write_78 : decode prog_11_method_93_code 78 = .ok (.aload_n 0, 1) := by decide +kernel
theorem d_R_write_79 : decode prog_11_method_93_code 79 = .ok (.getfield 7, 3) := by decide +kernel
theorem d_R_write_82 : decode prog_11_method_93_code 82 = .ok (.bipush 9, 2) := by decide +kernel
theorem d_R_write_84 : decode prog_11_method_93_code 84 = .ok (.iaload, 1) := by decide +kernel
theorem d_R_write_85 : decode prog_11_method_93_code 85 = .ok (.iadd, 1) := by decide +kernel
theorem d_R_write_86 : decode prog_11_method_93_code 86 = .ok (.aload_n 0, 1) := by decide +kernel
theorem d_R_write_87 : decode prog_11_method_93_code 87 = .ok (.getfield 7, 3) := by decide +kernel
theorem d_R_write_90 : decode prog_11_method_93_code 90 = .ok (.bipush 6, 2) := by decide +kernel
theorem d_R_write_92 : decode prog_11_method_93_code 92 = .ok (.iaload, 1) := by decide +kernel
theorem d_R_write_93 : decode prog_11_method_93_code 93 = .ok (.bipush 8, 2) := by decide +kernel
theorem d_R_write_95 : decode prog_11_method_93_code 95 = .ok (.imul, 1) := by decide +kernel
theorem d_R_write_96 : decode prog_11_method_93_code 96 = .ok (.iload_n 1, 1) := by decide +kernel
theorem d_R_write_97 : decode prog_11_method_93_code 97 = .ok (.iadd, 1) := by decide +kernel
theorem d_R_write_98 : decode prog_11_method_93_code 98 = .ok (.iconst 4, 1) := by decide +kernel
theorem d_R_write_99 : decode prog_11_method_93_code 99 = .ok (.imul, 1) := by decide +kernel
theorem d_R_write_100 : decode prog_11_method_93_code 100 = .ok (.iload_n 2, 1) := by decide +kernel
theorem d_R_write_101 : decode prog_11_method_93_code 101 = .ok (.iadd, 1) := by decide +kernel
theorem d_R_write_102 : decode prog_11_method_93_code 102 = .ok (.bipush 21, 2) := by decide +kernel
theorem d_R_write_104 : decode prog_11_method_93_code 104 = .ok (.imul, 1) := by decide +kernel
theorem d_R_write_105 : decode prog_11_method_93_code 105 = .ok (.iload_n 3, 1) := by decide +kernel
theorem d_R_write_106 : decode prog_11_method_93_code 106 = .ok (.iadd, 1) := by decide +kernel
theorem d_R_write_107 : decode prog_11_method_93_code 107 = .ok (.iconst 1, 1) := by decide +kernel
theorem d_R_write_108 : decode prog_11_method_93_code 108 = .ok (.iadd, 1) := by decide +kernel
theorem d_R_write_109 : decode prog_11_method_93_code 109 = .ok (.iastore, 1) := by decide +kernel
theorem d_R_write_110 : decode prog_11_method_93_code 110 = .ok (.aload_n 0, 1) := by decide +kernel
theorem d_R_write_111 : decode prog_11_method_93_code 111 = .ok (.getfield 7, 3) := by decide +kernel
theorem d_R_write_114 : decode prog_11_method_93_code 114 = .ok (.bipush 9, 2) := by decide +kernel
theorem d_R_write_116 : decode prog_11_method_93_code 116 = .ok (.dup2, 1) := by decide +kernel
theorem d_R_write_117 : decode prog_11_method_93_code 117 = .ok (.iaload, 1) := by decide +kernel
theorem d_R_write_118 : decode prog_11_method_93_code 118 = .ok (.iconst 1, 1) := by decide +kernel
theorem d_R_write_119 : decode prog_11_method_93_code 119 = .ok (.iadd, 1) := by decide +kernel
theorem d_R_write_120 : decode prog_11_method_93_code 120 = .ok (.iastore, 1) := by decide +kernel
theorem d_R_write_121 : decode prog_11_method_93_code 121 = .ok (.return_, 1) := by decide +kernel
theorem d_R_rub_0 : decode prog_11_method_106_code 0 = .ok (.aload_n 0, 1) := by decide +kernel
theorem d_R_rub_1 : decode prog_11_method_106_code 1 = .ok (.iload_n 1, 1) := by decide +kernel
theorem d_R_rub_2 : decode prog_11_method_106_code 2 = .ok (.iload_n 2, 1) := by decide +kernel
theorem d_R_rub_3 : decode prog_11_method_106_code 3 = .ok (.invokevirtual 413, 3) := by decide +kernel
theorem d_R_rub_6 : decode prog_11_method_106_code 6 = .ok (.ifCond .ne 5, 3) := by decide +kernel
theorem d_R_rub_9 : decode prog_11_method_106_code 9 = .ok (.iconst 0, 1) := by decide +kernel
theorem d_R_rub_10 : decode prog_11_method_106_code 10 = .ok (.ireturn, 1) := by decide +kernel
theorem d_R_rub_11 : decode prog_11_method_106_code 11 = .ok (.aload_n 0, 1) := by decide +kernel
theorem d_R_rub_12 : decode prog_11_method_106_code 12 = .ok (.invokevirtual 407, 3) := by decide +kernel
theorem d_R_rub_15 : decode prog_11_method_106_code 15 = .ok (.aload_n 0, 1) := by decide +kernel
theorem d_R_rub_16 : decode prog_11_method_106_code 16 = .ok (.iload_n 1, 1) := by decide +kernel
theorem d_R_rub_17 : decode prog_11_method_106_code 17 = .ok (.iload_n 2, 1) := by decide +kernel
theorem d_R_rub_18 : decode prog_11_method_106_code 18 = .ok (.iconst 1, 1) := by decide +kernel
theorem d_R_rub_19 : decode prog_11_method_106_code 19 = .ok (.invokevirtual 398, 3) := by decide +kernel
theorem d_R_rub_22 : decode prog_11_method_106_code 22 = .ok (.iconst 1, 1) := by decide +kernel
theorem d_R_rub_23 : decode prog_11_method_106_code 23 = .ok (.ireturn, 1) := by decide +kernel
theorem d_R_canRub_0 : decode prog_11_method_98_code 0 = .ok (.aload_n 0, 1) := by decide +kernel
theorem d_R_canRub_1 : decode prog_11_method_98_code 1 = .ok (.iload_n 1, 1) := by decide +kernel
theorem d_R_canRub_2 : decode prog_11_method_98_code 2 = .ok (.invokevirtual 379, 3) := by decide +kernel
theorem d_R_canRub_5 : decode prog_11_method_98_code 5 = .ok (.ifCond .eq 30, 3) := by decide +kernel
theorem d_R_canRub_8 : decode prog_11_method_98_code 8 = .ok (.iload_n 2, 1) := by decide +kernel
theorem d_R_canRub_9 : decode prog_11_method_98_code 9 = .ok (.invokestatic 382, 3) := by decide +kernel
theorem d_R_canRub_12 : decode prog_11_method_98_code 12 = .ok (.ifCond .eq 23, 3) := by decide +kernel
theorem d_R_canRub_15 : decode prog_11_method_98_code 15 = .ok (.aload_n 0, 1) := by decide +kernel
theorem d_R_canRub_16 : decode prog_11_method_98_code 16 = .ok (.getfield 7, 3) := by decide +kernel
theorem d_R_canRub_19 : decode prog_11_method_98_code 19 = .ok (.bipush 10, 2) := by decide +kernel
theorem d_R_canRub_21 : decode prog_11_method_98_code 21 = .ok (.iload_n 1, 1) := by decide +kernel
theorem d_R_canRub_22 : decode prog_11_method_98_code 22 = .ok (.iadd, 1) := by decide +kernel
theorem d_R_canRub_23 : decode prog_11_method_98_code 23 = .ok (.iaload, 1) := by decide +kernel
theorem d_R_canRub_24 : decode prog_11_method_98_code 24 = .ok (.iload_n 2, 1) := by decide +kernel
theorem d_R_canRub_25 : decode prog_11_method_98_code 25 = .ok (.invokestatic 94, 3) := by decide +kernel
theorem d_R_canRub_28 : decode prog_11_method_98_code 28 = .ok (.ifCond .eq 7, 3) := by decide +kernel
theorem d_R_canRub_31 : decode prog_11_method_98_code 31 = .ok (.iconst 1, 1) := by decide +kernel
theorem d_R_canRub_32 : decode prog_11_method_98_code 32 = .ok (.goto 4, 3) := by decide +kernel
theorem d_R_canRub_35 : decode prog_11_method_98_code 35 = .ok (.iconst 0, 1) := by decide +kernel
theorem d_R_canRub_36 : decode prog_11_method_98_code 36 = .ok (.ireturn, 1) := by decide +kernel
theorem d_R_rubNow_0 : decode prog_11_method_99_code 0 = .ok (.aload_n 0, 1) := by decide +kernel
theorem d_R_rubNow_1 : decode prog_11_method_99_code 1 = .ok (.getfield 7, 3) := by decide +kernel
theorem d_R_rubNow_4 : decode prog_11_method_99_code 4 = .ok (.bipush 10, 2) := by decide +kernel
theorem d_R_rubNow_6 : decode prog_11_method_99_code 6 = .ok (.iload_n 1, 1) := by decide +kernel
theorem d_R_rubNow_7 : decode prog_11_method_99_code 7 = .ok (.iadd, 1) := by decide +kernel
theorem d_R_rubNow_8 : decode prog_11_method_99_code 8 = .ok (.dup2, 1) := by decide +kernel
theorem d_R_rubNow_9 : decode prog_11_method_99_code 9 = .ok (.iaload, 1) := by decide +kernel
theorem d_R_rubNow_10 : decode prog_11_method_99_code 10 = .ok (.iconst 1, 1) := by decide +kernel
theorem d_R_rubNow_11 : decode prog_11_method_99_code 11 = .ok (.iload_n 2, 1) := by decide +kernel
theorem d_R_rubNow_12 : decode prog_11_method_99_code 12 = .ok (.ishl, 1) := by decide +kernel
theorem d_R_rubNow_13 : decode prog_11_method_99_code 13 = .ok (.iconst (-1), 1) := by decide +kernel
theorem d_R_rubNow_14 : decode prog_11_method_99_code 14 = .ok (.ixor, 1) := by decide +kernel
theorem d_R_rubNow_15 : decode prog_11_method_99_code 15 = .ok (.iand, 1) := by decide +kernel
theorem d_R_rubNow_16 : decode prog_11_method_99_code 16 = .ok (.iastore, 1) := by decide +kernel
theorem d_R_rubNow_17 : decode prog_11_method_99_code 17 = .ok (.aload_n 0, 1) := by decide +kernel
theorem d_R_rubNow_18 : decode prog_11_method_99_code 18 = .ok (.iload_n 1, 1) := by decide +kernel
theorem d_R_rubNow_19 : decode prog_11_method_99_code 19 = .ok (.iload_n 3, 1) := by decide +kernel
theorem d_R_rubNow_20 : decode prog_11_method_99_code 20 = .ok (.iload_n 2, 1) := by decide +kernel
theorem d_R_rubNow_21 : decode prog_11_method_99_code 21 = .ok (.invokevirtual 385, 3) := by decide +kernel
theorem d_R_rubNow_24 : decode prog_11_method_99_code 24 = .ok (.return_, 1) := by decide +kernel
theorem d_R_renew_0 : decode prog_11_method_107_code 0 = .ok (.aload_n 0, 1) := by decide +kernel
theorem d_R_renew_1 : decode prog_11_method_107_code 1 = .ok (.iload_n 1, 1) := by decide +kernel
theorem d_R_renew_2 : decode prog_11_method_107_code 2 = .ok (.invokevirtual 379, 3) := by decide +kernel
theorem d_R_renew_5 : decode prog_11_method_107_code 5 = .ok (.ifCond .eq 11, 3) := by decide +kernel
theorem d_R_renew_8 : decode prog_11_method_107_code 8 = .ok (.aload_n 0, 1) := by decide +kernel
theorem d_R_renew_9 : decode prog_11_method_107_code 9 = .ok (.iload_n 1, 1) := by decide +kernel
theorem d_R_renew_10 : decode prog_11_method_107_code 10 = .ok (.invokevirtual 416, 3) := by decide +kernel
theorem d_R_renew_13 : decode prog_11_method_107_code 13 = .ok (.ifCond .ne 5, 3) := by decide +kernel
theorem d_R_renew_16 : decode prog_11_method_107_code 16 = .ok (.iconst (-1), 1) := by decide +kernel
theorem d_R_renew_17 : decode prog_11_method_107_code 17 = .ok (.ireturn, 1) := by decide +kernel
theorem d_R_renew_18 : decode prog_11_method_107_code 18 = .ok (.aload_n 0, 1) := by decide +kernel
theorem d_R_renew_19 : decode prog_11_method_107_code 19 = .ok (.iload_n 1, 1) := by decide +kernel
theorem d_R_renew_20 : decode prog_11_method_107_code 20 = .ok (.invokevirtual 416, 3) := by decide +kernel
theorem d_R_renew_23 : decode prog_11_method_107_code 23 = .ok (.istore_n 2, 1) := by decide +kernel
theorem d_R_renew_24 : decode prog_11_method_107_code 24 = .ok (.aload_n 0, 1) := by decide +kernel
theorem d_R_renew_25 : decode prog_11_method_107_code 25 = .ok (.invokevirtual 407, 3) := by decide +kernel
theorem d_R_renew_28 : decode prog_11_method_107_code 28 = .ok (.aload_n 0, 1) := by decide +kernel
theorem d_R_renew_29 : decode prog_11_method_107_code 29 = .ok (.iload_n 1, 1) := by decide +kernel
theorem d_R_renew_30 : decode prog_11_method_107_code 30 = .ok (.invokevirtual 419, 3) := by decide +kernel
theorem d_R_renew_33 : decode prog_11_method_107_code 33 = .ok (.iload_n 2, 1) := by decide +kernel
theorem d_R_renew_34 : decode prog_11_method_107_code 34 = .ok (.ireturn, 1) := by decide +kernel
theorem d_R_otherThan_0 : decode prog_11_method_100_code 0 = .ok (.aload_n 0, 1) := by decide +kernel
theorem d_R_otherThan_1 : decode prog_11_method_100_code 1 = .ok (.getfield 7, 3) := by decide +kernel
theorem d_R_otherThan_4 : decode prog_11_method_100_code 4 = .ok (.bipush 10, 2) := by decide +kernel
theorem d_R_otherThan_6 : decode prog_11_method_100_code 6 = .ok (.iload_n 1, 1) := by decide +kernel
theorem d_R_otherThan_7 : decode prog_11_method_100_code 7 = .ok (.iadd, 1) := by decide +kernel
theorem d_R_otherThan_8 : decode prog_11_method_100_code 8 = .ok (.iaload, 1) := by decide +kernel
theorem d_R_otherThan_9 : decode prog_11_method_100_code 9 = .ok (.aload_n 0, 1) := by decide +kernel
theorem d_R_otherThan_10 : decode prog_11_method_100_code 10 = .ok (.getfield 7, 3) := by decide +kernel
theorem d_R_otherThan_13 : decode prog_11_method_100_code 13 = .ok (.bipush 18, 2) := by decide +kernel
theorem d_R_otherThan_15 : decode prog_11_method_100_code 15 = .ok (.iload_n 1, 1) := by decide +kernel
theorem d_R_otherThan_16 : decode prog_11_method_100_code 16 = .ok (.iadd, 1) := by decide +kernel
theorem d_R_otherThan_17 : decode prog_11_method_100_code 17 = .ok (.iaload, 1) := by decide +kernel
theorem d_R_otherThan_18 : decode prog_11_method_100_code 18 = .ok (.ixor, 1) := by decide +kernel
theorem d_R_otherThan_19 : decode prog_11_method_100_code 19 = .ok (.invokestatic 121, 3) := by decide +kernel
theorem d_R_otherThan_22 : decode prog_11_method_100_code 22 = .ok (.ireturn, 1) := by decide +kernel
theorem d_R_renewNow_0 : decode prog_11_method_101_code 0 = .ok (.aload_n 0, 1) := by decide +kernel
theorem d_R_renewNow_1 : decode prog_11_method_101_code 1 = .ok (.getfield 7, 3) := by decide +kernel
theorem d_R_renewNow_4 : decode prog_11_method_101_code 4 = .ok (.bipush 10, 2) := by decide +kernel
theorem d_R_renewNow_6 : decode prog_11_method_101_code 6 = .ok (.iload_n 1, 1) := by decide +kernel
theorem d_R_renewNow_7 : decode prog_11_method_101_code 7 = .ok (.iadd, 1) := by decide +kernel
theorem d_R_renewNow_8 : decode prog_11_method_101_code 8 = .ok (.aload_n 0, 1) := by decide +kernel
theorem d_R_renewNow_9 : decode prog_11_method_101_code 9 = .ok (.getfield 7, 3) := by decide +kernel
theorem d_R_renewNow_12 : decode prog_11_method_101_code 12 = .ok (.bipush 18, 2) := by decide +kernel
theorem d_R_renewNow_14 : decode prog_11_method_101_code 14 = .ok (.iload_n 1, 1) := by decide +kernel
theorem d_R_renewNow_15 : decode prog_11_method_101_code 15 = .ok (.iadd, 1) := by decide +kernel
theorem d_R_renewNow_16 : decode prog_11_method_101_code 16 = .ok (.iaload, 1) := by decide +kernel
theorem d_R_renewNow_17 : decode prog_11_method_101_code 17 = .ok (.iastore, 1) := by decide +kernel
theorem d_R_renewNow_18 : decode prog_11_method_101_code 18 = .ok (.aload_n 0, 1) := by decide +kernel
theorem d_R_renewNow_19 : decode prog_11_method_101_code 19 = .ok (.iload_n 1, 1) := by decide +kernel
theorem d_R_renewNow_20 : decode prog_11_method_101_code 20 = .ok (.iconst 2, 1) := by decide +kernel
theorem d_R_renewNow_21 : decode prog_11_method_101_code 21 = .ok (.iconst (-1), 1) := by decide +kernel
theorem d_R_renewNow_22 : decode prog_11_method_101_code 22 = .ok (.invokevirtual 385, 3) := by decide +kernel
theorem d_R_renewNow_25 : decode prog_11_method_101_code 25 = .ok (.return_, 1) := by decide +kernel
theorem d_R_year_0 : decode prog_11_method_109_code 0 = .ok (.iload_n 1, 1) := by decide +kernel
theorem d_R_year_1 : decode prog_11_method_109_code 1 = .ok (.iconst 1, 1) := by decide +kernel
theorem d_R_year_2 : decode prog_11_method_109_code 2 = .ok (.bipush 60, 2) := by decide +kernel
theorem d_R_year_4 : decode prog_11_method_109_code 4 = .ok (.invokestatic 89, 3) := by decide +kernel
theorem d_R_year_7 : decode prog_11_method_109_code 7 = .ok (.ifCond .eq 33, 3) := by decide +kernel
theorem d_R_year_10 : decode prog_11_method_109_code 10 = .ok (.aload_n 0, 1) := by decide +kernel
theorem d_R_year_11 : decode prog_11_method_109_code 11 = .ok (.getfield 7, 3) := by decide +kernel
theorem d_R_year_14 : decode prog_11_method_109_code 14 = .ok (.bipush 6, 2) := by decide +kernel
theorem d_R_year_16 : decode prog_11_method_109_code 16 = .ok (.iaload, 1) := by decide +kernel
theorem d_R_year_17 : decode prog_11_method_109_code 17 = .ok (.iload_n 1, 1) := by decide +kernel
theorem d_R_year_18 : decode prog_11_method_109_code 18 = .ok (.iadd, 1) := by decide +kernel
theorem d_R_year_19 : decode prog_11_method_109_code 19 = .ok (.sipush 9999, 3) := by decide +kernel
theorem d_R_year_22 : decode prog_11_method_109_code 22 = .ok (.if_icmp .gt 18, 3) := by decide +kernel
theorem d_R_year_25 : decode prog_11_method_109_code 25 = .ok (.aload_n 0, 1) := by decide +kernel
theorem d_R_year_26 : decode prog_11_method_109_code 26 = .ok (.iload_n 1, 1) := by decide +kernel
theorem d_R_year_27 : decode prog_11_method_109_code 27 = .ok (.invokevirtual 425, 3) := by decide +kernel
theorem d_R_year_30 : decode prog_11_method_109_code 30 = .ok (.ifCond .eq 10, 3) := by decide +kernel
theorem d_R_year_33 : decode prog_11_method_109_code 33 = .ok (.aload_n 0, 1) := by decide +kernel
theorem d_R_year_34 : decode prog_11_method_109_code 34 = .ok (.getfield 401, 3) := by decide +kernel
theorem d_R_year_37 : decode prog_11_method_109_code 37 = .ok (.goto 4, 3) := by decide +kernel
theorem d_R_year_40 : decode prog_11_method_109_code 40 = .ok (.iconst (-1), 1) := by decide +kernel
theorem d_R_year_41 : decode prog_11_method_109_code 41 = .ok (.ireturn, 1) := by decide +kernel
theorem d_R_arePassed_0 : decode prog_11_method_108_code 0 = .ok (.aload_n 0, 1) := by decide +kernel
theorem d_R_arePassed_1 : decode prog_11_method_108_code 1 = .ok (.iconst 0, 1) := by decide +kernel
theorem d_R_arePassed_2 : decode prog_11_method_108_code 2 = .ok (.putfield 401, 3) := by decide +kernel
theorem d_R_arePassed_5 : decode prog_11_method_108_code 5 = .ok (.iconst 0, 1) := by decide +kernel
theorem d_R_arePassed_6 : decode prog_11_method_108_code 6 = .ok (.istore_n 2, 1) := by decide +kernel
theorem d_R_arePassed_7 : decode prog_11_method_108_code 7 = .ok (.iload_n 2, 1) := by decide +kernel
theorem d_R_arePassed_8 : decode prog_11_method_108_code 8 = .ok (.iload_n 1, 1) := by decide +kernel
theorem d_R_arePassed_9 : decode prog_11_method_108_code 9 = .ok (.if_icmp .ge 32, 3) := by decide +kernel
theorem d_R_arePassed_12 : decode prog_11_method_108_code 12 = .ok (.aload_n 0, 1) := by decide +kernel
theorem d_R_arePassed_13 : decode prog_11_method_108_code 13 = .ok (.getfield 7, 3) := by decide +kernel
theorem d_R_arePassed_16 : decode prog_11_method_108_code 16 = .ok (.bipush 6, 2) := by decide +kernel
theorem d_R_arePassed_18 : decode prog_11_method_108_code 18 = .ok (.iaload, 1) := by decide +kernel
theorem d_R_arePassed_19 : decode prog_11_method_108_code 19 = .ok (.sipush 9999, 3) := by decide +kernel
theorem d_R_arePassed_22 : decode prog_11_method_108_code 22 = .ok (.if_icmp .ne 5, 3) := by decide +kernel
theorem d_R_arePassed_25 : decode prog_11_method_108_code 25 = .ok (.iconst 0, 1) := by decide +kernel
theorem d_R_arePassed_26 : decode prog_11_method_108_code 26 = .ok (.ireturn, 1) := by decide +kernel
theorem d_R_arePassed_27 : decode prog_11_method_108_code 27 = .ok (.aload_n 0, 1) := by decide +kernel
theorem d_R_arePassed_28 : decode prog_11_method_108_code 28 = .ok (.invokevirtual 407, 3) := by decide +kernel
theorem d_R_arePassed_31 : decode prog_11_method_108_code 31 = .ok (.aload_n 0, 1) := by decide +kernel
theorem d_R_arePassed_32 : decode prog_11_method_108_code 32 = .ok (.invokevirtual 422, 3) := by decide +kernel
theorem d_R_arePassed_35 : decode prog_11_method_108_code 35 = .ok (.iinc 2 1, 3) := by decide +kernel
theorem d_R_arePassed_38 : decode prog_11_method_108_code 38 = .ok (.goto (-31), 3) := by decide +kernel
theorem d_R_arePassed_41 : decode prog_11_method_108_code 41 = .ok (.iconst 1, 1) := by decide +kernel
theorem d_R_arePassed_42 : decode prog_11_method_108_code 42 = .ok (.ireturn, 1) := by decide +kernel
theorem d_R_pass_0 : decode prog_11_method_102_code 0 = .ok (.iconst 0, 1) := by decide +kernel
theorem d_R_pass_1 : decode prog_11_method_102_code 1 = .ok (.istore_n 1, 1) := by decide +kernel
theorem d_R_pass_2 : decode prog_11_method_102_code 2 = .ok (.iload_n 1, 1) := by decide +kernel
theorem d_R_pass_3 : decode prog_11_method_102_code 3 = .ok (.aload_n 0, 1) := by decide +kernel
theorem d_R_pass_4 : decode prog_11_method_102_code 4 = .ok (.getfield 7, 3) := by decide +kernel
theorem d_R_pass_7 : decode prog_11_method_102_code 7 = .ok (.iconst 0, 1) := by decide +kernel
theorem d_R_pass_8 : decode prog_11_method_102_code 8 = .ok (.iaload, 1) := by decide +kernel
theorem d_R_pass_9 : decode prog_11_method_102_code 9 = .ok (.if_icmp .ge 101, 3) := by decide +kernel
theorem d_R_pass_12 : decode prog_11_method_102_code 12 = .ok (.aload_n 0, 1) := by decide +kernel
theorem d_R_pass_13 : decode prog_11_method_102_code 13 = .ok (.getfield 7, 3) := by decide +kernel
theorem d_R_pass_16 : decode prog_11_method_102_code 16 = .ok (.bipush 8, 2) := by decide +kernel
theorem d_R_pass_18 : decode prog_11_method_102_code 18 = .ok (.aload_n 0, 1) := by decide +kernel
theorem d_R_pass_19 : decode prog_11_method_102_code 19 = .ok (.getfield 7, 3) := by decide +kernel
theorem d_R_pass_22 : decode prog_11_method_102_code 22 = .ok (.bipush 8, 2) := by decide +kernel
theorem d_R_pass_24 : decode prog_11_method_102_code 24 = .ok (.iaload, 1) := by decide +kernel
theorem d_R_pass_25 : decode prog_11_method_102_code 25 = .ok (.aload_n 0, 1) := by decide +kernel
theorem d_R_pass_26 : decode prog_11_method_102_code 26 = .ok (.iload_n 1, 1) := by decide +kernel
theorem d_R_pass_27 : decode prog_11_method_102_code 27 = .ok (.invokevirtual 388, 3) := by decide +kernel
theorem d_R_pass_30 : decode prog_11_method_102_code 30 = .ok (.iadd, 1) := by decide +kernel
theorem d_R_pass_31 : decode prog_11_method_102_code 31 = .ok (.i2l, 1) := by decide +kernel
theorem d_R_pass_32 : decode prog_11_method_102_code 32 = .ok (.iconst 0, 1) := by decide +kernel
theorem d_R_pass_33 : decode prog_11_method_102_code 33 = .ok (.ldc_w 391, 3) := by decide +kernel
theorem d_R_pass_36 : decode prog_11_method_102_code 36 = .ok (.invokestatic 359, 3) := by decide +kernel
theorem d_R_pass_39 : decode prog_11_method_102_code 39 = .ok (.iastore, 1) := by decide +kernel
theorem d_R_pass_40 : decode prog_11_method_102_code 40 = .ok (.aload_n 0, 1) := by decide +kernel
theorem d_R_pass_41 : decode prog_11_method_102_code 41 = .ok (.bipush 20, 2) := by decide +kernel
theorem d_R_pass_43 : decode prog_11_method_102_code 43 = .ok (.invokevirtual 392, 3) := by decide +kernel
theorem d_R_pass_46 : decode prog_11_method_102_code 46 = .ok (.istore_n 2, 1) := by decide +kernel
theorem d_R_pass_47 : decode prog_11_method_102_code 47 = .ok (.aload_n 0, 1) := by decide +kernel
theorem d_R_pass_48 : decode prog_11_method_102_code 48 = .ok (.getfield 7, 3) := by decide +kernel
theorem d_R_pass_51 : decode prog_11_method_102_code 51 = .ok (.bipush 10, 2) := by decide +kernel
theorem d_R_pass_53 : decode prog_11_method_102_code 53 = .ok (.iload_n 1, 1) := by decide +kernel
theorem d_R_pass_54 : decode prog_11_method_102_code 54 = .ok (.iadd, 1) := by decide +kernel
theorem d_R_pass_55 : decode prog_11_method_102_code 55 = .ok (.iaload, 1) := by decide +kernel
theorem d_R_pass_56 : decode prog_11_method_102_code 56 = .ok (.iload_n 2, 1) := by decide +kernel
theorem d_R_pass_57 : decode prog_11_method_102_code 57 = .ok (.invokestatic 94, 3) := by decide +kernel
theorem d_R_pass_60 : decode prog_11_method_102_code 60 = .ok (.ifCond .eq 44, 3) := by decide +kernel
theorem d_R_pass_63 : decode prog_11_method_102_code 63 = .ok (.aload_n 0, 1) := by decide +kernel
theorem d_R_pass_64 : decode prog_11_method_102_code 64 = .ok (.bipush 10, 2) := by decide +kernel
theorem d_R_pass_66 : decode prog_11_method_102_code 66 = .ok (.invokevirtual 392, 3) := by decide +kernel
theorem d_R_pass_69 : decode prog_11_method_102_code 69 = .ok (.aload_n 0, 1) := by decide +kernel
theorem d_R_pass_70 : decode prog_11_method_102_code 70 = .ok (.aload_n 0, 1) := by decide +kernel
theorem d_R_pass_71 : decode prog_11_method_102_code 71 = .ok (.getfield 7, 3) := by decide +kernel
theorem d_R_pass_74 : decode prog_11_method_102_code 74 = .ok (.iconst 2, 1) := by decide +kernel
theorem d_R_pass_75 : decode prog_11_method_102_code 75 = .ok (.iaload, 1) := by decide +kernel
theorem d_R_pass_76 : decode prog_11_method_102_code 76 = .ok (.iload_n 1, 1) := by decide +kernel
theorem d_R_pass_77 : decode prog_11_method_102_code 77 = .ok (.iload_n 2, 1) := by decide +kernel
theorem d_R_pass_78 : decode prog_11_method_102_code 78 = .ok (.invokevirtual 395, 3) := by decide +kernel
theorem d_R_pass_81 : decode prog_11_method_102_code 81 = .ok (.if_icmp .lt 6, 3) := by decide +kernel
theorem d_R_pass_84 : decode prog_11_method_102_code 84 = .ok (.goto 20, 3) := by decide +kernel
theorem d_R_pass_87 : decode prog_11_method_102_code 87 = .ok (.aload_n 0, 1) := by decide +kernel
theorem d_R_pass_88 : decode prog_11_method_102_code 88 = .ok (.iload_n 1, 1) := by decide +kernel
theorem d_R_pass_89 : decode prog_11_method_102_code 89 = .ok (.iload_n 2, 1) := by decide +kernel
theorem d_R_pass_90 : decode prog_11_method_102_code 90 = .ok (.iconst 3, 1) := by decide +kernel
theorem d_R_pass_91 : decode prog_11_method_102_code 91 = .ok (.invokevirtual 398, 3) := by decide +kernel
theorem d_R_pass_94 : decode prog_11_method_102_code 94 = .ok (.aload_n 0, 1) := by decide +kernel
theorem d_R_pass_95 : decode prog_11_method_102_code 95 = .ok (.dup, 1) := by decide +kernel
theorem d_R_pass_96 : decode prog_11_method_102_code 96 = .ok (.getfield 401, 3) := by decide +kernel
theorem d_R_pass_99 : decode prog_11_method_102_code 99 = .ok (.iconst 1, 1) := by decide +kernel
theorem d_R_pass_100 : decode prog_11_method_102_code 100 = .ok (.iadd, 1) := by decide +kernel
theorem d_R_pass_101 : decode prog_11_method_102_code 101 = .ok (.putfield 401, 3) := by decide +kernel
theorem d_R_pass_104 : decode prog_11_method_102_code 104 = .ok (.iinc 1 1, 3) := by decide +kernel
theorem d_R_pass_107 : decode prog_11_method_102_code 107 = .ok (.goto (-105), 3) := by decide +kernel
theorem d_R_pass_110 : decode prog_11_method_102_code 110 = .ok (.aload_n 0, 1) := by decide +kernel
theorem d_R_pass_111 : decode prog_11_method_102_code 111 = .ok (.getfield 7, 3) := by decide +kernel
theorem d_R_pass_114 : decode prog_11_method_102_code 114 = .ok (.bipush 6, 2) := by decide +kernel
theorem d_R_pass_116 : decode prog_11_method_102_code 116 = .ok (.dup2, 1) := by decide +kernel
theorem d_R_pass_117 : decode prog_11_method_102_code 117 = .ok (.iaload, 1) := by decide +kernel
theorem d_R_pass_118 : decode prog_11_method_102_code 118 = .ok (.iconst 1, 1) := by decide +kernel
theorem d_R_pass_119 : decode prog_11_method_102_code 119 = .ok (.iadd, 1) := by decide +kernel
theorem d_R_pass_120 : decode prog_11_method_102_code 120 = .ok (.iastore, 1) := by decide +kernel
theorem d_R_pass_121 : decode prog_11_method_102_code 121 = .ok (.return_, 1) := by decide +kernel
theorem d_R_feeOf_0 : decode prog_11_method_92_code 0 = .ok (.aload_n 0, 1) := by decide +kernel
theorem d_R_feeOf_1 : decode prog_11_method_92_code 1 = .ok (.iload_n 1, 1) := by decide +kernel
theorem d_R_feeOf_2 : decode prog_11_method_92_code 2 = .ok (.iconst 0, 1) := by decide +kernel
theorem d_R_feeOf_3 : decode prog_11_method_92_code 3 = .ok (.invokevirtual 363, 3) := by decide +kernel
theorem d_R_feeOf_6 : decode prog_11_method_92_code 6 = .ok (.aload_n 0, 1) := by decide +kernel
theorem d_R_feeOf_7 : decode prog_11_method_92_code 7 = .ok (.aload_n 0, 1) := by decide +kernel
theorem d_R_feeOf_8 : decode prog_11_method_92_code 8 = .ok (.getfield 7, 3) := by decide +kernel
theorem d_R_feeOf_11 : decode prog_11_method_92_code 11 = .ok (.iconst 2, 1) := by decide +kernel
theorem d_R_feeOf_12 : decode prog_11_method_92_code 12 = .ok (.iaload, 1) := by decide +kernel
theorem d_R_feeOf_13 : decode prog_11_method_92_code 13 = .ok (.iconst 1, 1) := by decide +kernel
theorem d_R_feeOf_14 : decode prog_11_method_92_code 14 = .ok (.aload_n 0, 1) := by decide +kernel
theorem d_R_feeOf_15 : decode prog_11_method_92_code 15 = .ok (.getfield 50, 3) := by decide +kernel
theorem d_R_feeOf_18 : decode prog_11_method_92_code 18 = .ok (.iconst 2, 1) := by decide +kernel
theorem d_R_feeOf_19 : decode prog_11_method_92_code 19 = .ok (.iaload, 1) := by decide +kernel
theorem d_R_feeOf_20 : decode prog_11_method_92_code 20 = .ok (.bipush 99, 2) := by decide +kernel
theorem d_R_feeOf_22 : decode prog_11_method_92_code 22 = .ok (.invokevirtual 366, 3) := by decide +kernel
theorem d_R_feeOf_25 : decode prog_11_method_92_code 25 = .ok (.ireturn, 1) := by decide +kernel
theorem d_R_name_0 : decode prog_11_method_90_code 0 = .ok (.aload_n 0, 1) := by decide +kernel
theorem d_R_name_1 : decode prog_11_method_90_code 1 = .ok (.getfield 7, 3) := by decide +kernel
theorem d_R_name_4 : decode prog_11_method_90_code 4 = .ok (.bipush 10, 2) := by decide +kernel
theorem d_R_name_6 : decode prog_11_method_90_code 6 = .ok (.iload_n 1, 1) := by decide +kernel
theorem d_R_name_7 : decode prog_11_method_90_code 7 = .ok (.iadd, 1) := by decide +kernel
theorem d_R_name_8 : decode prog_11_method_90_code 8 = .ok (.iaload, 1) := by decide +kernel
theorem d_R_name_9 : decode prog_11_method_90_code 9 = .ok (.istore_n 3, 1) := by decide +kernel
theorem d_R_name_10 : decode prog_11_method_90_code 10 = .ok (.aload_n 0, 1) := by decide +kernel
theorem d_R_name_11 : decode prog_11_method_90_code 11 = .ok (.getfield 50, 3) := by decide +kernel
theorem d_R_name_14 : decode prog_11_method_90_code 14 = .ok (.iconst 0, 1) := by decide +kernel
theorem d_R_name_15 : decode prog_11_method_90_code 15 = .ok (.aload_n 0, 1) := by decide +kernel
theorem d_R_name_16 : decode prog_11_method_90_code 16 = .ok (.getfield 7, 3) := by decide +kernel
theorem d_R_name_19 : decode prog_11_method_90_code 19 = .ok (.bipush 6, 2) := by decide +kernel
theorem d_R_name_21 : decode prog_11_method_90_code 21 = .ok (.iaload, 1) := by decide +kernel
theorem d_R_name_22 : decode prog_11_method_90_code 22 = .ok (.iastore, 1) := by decide +kernel
theorem d_R_name_23 : decode prog_11_method_90_code 23 = .ok (.aload_n 0, 1) := by decide +kernel
theorem d_R_name_24 : decode prog_11_method_90_code 24 = .ok (.getfield 50, 3) := by decide +kernel
theorem d_R_name_27 : decode prog_11_method_90_code 27 = .ok (.iconst 1, 1) := by decide +kernel
theorem d_R_name_28 : decode prog_11_method_90_code 28 = .ok (.iload_n 1, 1) := by decide +kernel
theorem d_R_name_29 : decode prog_11_method_90_code 29 = .ok (.iastore, 1) := by decide +kernel
theorem d_R_name_30 : decode prog_11_method_90_code 30 = .ok (.aload_n 0, 1) := by decide +kernel
theorem d_R_name_31 : decode prog_11_method_90_code 31 = .ok (.getfield 50, 3) := by decide +kernel
theorem d_R_name_34 : decode prog_11_method_90_code 34 = .ok (.iconst 2, 1) := by decide +kernel
theorem d_R_name_35 : decode prog_11_method_90_code 35 = .ok (.iload_n 3, 1) := by decide +kernel
theorem d_R_name_36 : decode prog_11_method_90_code 36 = .ok (.invokestatic 121, 3) := by decide +kernel
theorem d_R_name_39 : decode prog_11_method_90_code 39 = .ok (.iastore, 1) := by decide +kernel
theorem d_R_name_40 : decode prog_11_method_90_code 40 = .ok (.aload_n 0, 1) := by decide +kernel
theorem d_R_name_41 : decode prog_11_method_90_code 41 = .ok (.getfield 50, 3) := by decide +kernel
theorem d_R_name_44 : decode prog_11_method_90_code 44 = .ok (.iconst 3, 1) := by decide +kernel
theorem d_R_name_45 : decode prog_11_method_90_code 45 = .ok (.aload_n 0, 1) := by decide +kernel
theorem d_R_name_46 : decode prog_11_method_90_code 46 = .ok (.iload_n 3, 1) := by decide +kernel
theorem d_R_name_47 : decode prog_11_method_90_code 47 = .ok (.invokevirtual 127, 3) := by decide +kernel
theorem d_R_name_50 : decode prog_11_method_90_code 50 = .ok (.invokestatic 121, 3) := by decide +kernel
theorem d_R_name_53 : decode prog_11_method_90_code 53 = .ok (.iastore, 1) := by decide +kernel
theorem d_R_name_54 : decode prog_11_method_90_code 54 = .ok (.aload_n 0, 1) := by decide +kernel
theorem d_R_name_55 : decode prog_11_method_90_code 55 = .ok (.getfield 50, 3) := by decide +kernel
theorem d_R_name_58 : decode prog_11_method_90_code 58 = .ok (.iconst 4, 1) := by decide +kernel
theorem d_R_name_59 : decode prog_11_method_90_code 59 = .ok (.aload_n 0, 1) := by decide +kernel
theorem d_R_name_60 : decode prog_11_method_90_code 60 = .ok (.getfield 7, 3) := by decide +kernel
theorem d_R_name_63 : decode prog_11_method_90_code 63 = .ok (.bipush 8, 2) := by decide +kernel
theorem d_R_name_65 : decode prog_11_method_90_code 65 = .ok (.iaload, 1) := by decide +kernel
theorem d_R_name_66 : decode prog_11_method_90_code 66 = .ok (.iastore, 1) := by decide +kernel
theorem d_R_name_67 : decode prog_11_method_90_code 67 = .ok (.aload_n 0, 1) := by decide +kernel
theorem d_R_name_68 : decode prog_11_method_90_code 68 = .ok (.getfield 50, 3) := by decide +kernel
theorem d_R_name_71 : decode prog_11_method_90_code 71 = .ok (.iconst 5, 1) := by decide +kernel
theorem d_R_name_72 : decode prog_11_method_90_code 72 = .ok (.iload_n 2, 1) := by decide +kernel
theorem d_R_name_73 : decode prog_11_method_90_code 73 = .ok (.iastore, 1) := by decide +kernel
theorem d_R_name_74 : decode prog_11_method_90_code 74 = .ok (.aload_n 0, 1) := by decide +kernel
theorem d_R_name_75 : decode prog_11_method_90_code 75 = .ok (.getfield 50, 3) := by decide +kernel
theorem d_R_name_78 : decode prog_11_method_90_code 78 = .ok (.bipush 6, 2) := by decide +kernel
theorem d_R_name_80 : decode prog_11_method_90_code 80 = .ok (.aload_n 0, 1) := by decide +kernel
theorem d_R_name_81 : decode prog_11_method_90_code 81 = .ok (.iload_n 3, 1) := by decide +kernel
theorem d_R_name_82 : decode prog_11_method_90_code 82 = .ok (.invokevirtual 124, 3) := by decide +kernel
theorem d_R_name_85 : decode prog_11_method_90_code 85 = .ok (.iastore, 1) := by decide +kernel
theorem d_R_name_86 : decode prog_11_method_90_code 86 = .ok (.return_, 1) := by decide +kernel
theorem d_R_piecesOf_0 : decode prog_11_method_24_code 0 = .ok (.iconst 0, 1) := by decide +kernel
theorem d_R_piecesOf_1 : decode prog_11_method_24_code 1 = .ok (.istore_n 2, 1) := by decide +kernel
theorem d_R_piecesOf_2 : decode prog_11_method_24_code 2 = .ok (.aload_n 0, 1) := by decide +kernel
theorem d_R_piecesOf_3 : decode prog_11_method_24_code 3 = .ok (.iload_n 1, 1) := by decide +kernel
theorem d_R_piecesOf_4 : decode prog_11_method_24_code 4 = .ok (.invokevirtual 114, 3) := by decide +kernel
theorem d_R_piecesOf_7 : decode prog_11_method_24_code 7 = .ok (.istore_n 3, 1) := by decide +kernel
theorem d_R_piecesOf_8 : decode prog_11_method_24_code 8 = .ok (.iconst 0, 1) := by decide +kernel
theorem d_R_piecesOf_9 : decode prog_11_method_24_code 9 = .ok (.istore 4, 2) := by decide +kernel
theorem d_R_piecesOf_11 : decode prog_11_method_24_code 11 = .ok (.iload 4, 2) := by decide +kernel
theorem d_R_piecesOf_13 : decode prog_11_method_24_code 13 = .ok (.bipush 9, 2) := by decide +kernel
theorem d_R_piecesOf_15 : decode prog_11_method_24_code 15 = .ok (.if_icmp .ge 36, 3) := by decide +kernel
theorem d_R_piecesOf_18 : decode prog_11_method_24_code 18 = .ok (.iload_n 3, 1) := by decide +kernel
theorem d_R_piecesOf_19 : decode prog_11_method_24_code 19 = .ok (.iload 4, 2) := by decide +kernel
theorem d_R_piecesOf_21 : decode prog_11_method_24_code 21 = .ok (.invokestatic 94, 3) := by decide +kernel
theorem d_R_piecesOf_24 : decode prog_11_method_24_code 24 = .ok (.ifCond .ne 6, 3) := by decide +kernel
theorem d_R_piecesOf_27 : decode prog_11_method_24_code 27 = .ok (.goto 18, 3) := by decide +kernel
theorem d_R_piecesOf_30 : decode prog_11_method_24_code 30 = .ok (.iload_n 3, 1) := by decide +kernel
theorem d_R_piecesOf_31 : decode prog_11_method_24_code 31 = .ok (.aload_n 0, 1) := by decide +kernel
theorem d_R_piecesOf_32 : decode prog_11_method_24_code 32 = .ok (.iload_n 1, 1) := by decide +kernel
theorem d_R_piecesOf_33 : decode prog_11_method_24_code 33 = .ok (.iload 4, 2) := by decide +kernel
theorem d_R_piecesOf_35 : decode prog_11_method_24_code 35 = .ok (.invokevirtual 118, 3) := by decide +kernel
theorem d_R_piecesOf_38 : decode prog_11_method_24_code 38 = .ok (.iconst (-1), 1) := by decide +kernel
theorem d_R_piecesOf_39 : decode prog_11_method_24_code 39 = .ok (.ixor, 1) := by decide +kernel
theorem d_R_piecesOf_40 : decode prog_11_method_24_code 40 = .ok (.iand, 1) := by decide +kernel
theorem d_R_piecesOf_41 : decode prog_11_method_24_code 41 = .ok (.istore_n 3, 1) := by decide +kernel
theorem d_R_piecesOf_42 : decode prog_11_method_24_code 42 = .ok (.iinc 2 1, 3) := by decide +kernel
theorem d_R_piecesOf_45 : decode prog_11_method_24_code 45 = .ok (.iinc 4 1, 3) := by decide +kernel
theorem d_R_piecesOf_48 : decode prog_11_method_24_code 48 = .ok (.goto (-37), 3) := by decide +kernel
theorem d_R_piecesOf_51 : decode prog_11_method_24_code 51 = .ok (.iload_n 2, 1) := by decide +kernel
theorem d_R_piecesOf_52 : decode prog_11_method_24_code 52 = .ok (.ireturn, 1) := by decide +kernel
theorem d_R_says_0 : decode prog_11_method_89_code 0 = .ok (.iconst 0, 1) := by decide +kernel
theorem d_R_says_1 : decode prog_11_method_89_code 1 = .ok (.istore 5, 2) := by decide +kernel
theorem d_R_says_3 : decode prog_11_method_89_code 3 = .ok (.iload_n 1, 1) := by decide +kernel
theorem d_R_says_4 : decode prog_11_method_89_code 4 = .ok (.ifCond .lt 59, 3) := by decide +kernel
theorem d_R_says_7 : decode prog_11_method_89_code 7 = .ok (.iload 5, 2) := by decide +kernel
theorem d_R_says_9 : decode prog_11_method_89_code 9 = .ok (.aload_n 0, 1) := by decide +kernel
theorem d_R_says_10 : decode prog_11_method_89_code 10 = .ok (.getfield 28, 3) := by decide +kernel
theorem d_R_says_13 : decode prog_11_method_89_code 13 = .ok (.sipush 681, 3) := by decide +kernel
theorem d_R_says_16 : decode prog_11_method_89_code 16 = .ok (.iload_n 1, 1) := by decide +kernel
theorem d_R_says_17 : decode prog_11_method_89_code 17 = .ok (.imul, 1) := by decide +kernel
theorem d_R_says_18 : decode prog_11_method_89_code 18 = .ok (.iaload, 1) := by decide +kernel
theorem d_R_says_19 : decode prog_11_method_89_code 19 = .ok (.if_icmp .ge 44, 3) := by decide +kernel
theorem d_R_says_22 : decode prog_11_method_89_code 22 = .ok (.aload_n 0, 1) := by decide +kernel
theorem d_R_says_23 : decode prog_11_method_89_code 23 = .ok (.getfield 28, 3) := by decide +kernel
theorem d_R_says_26 : decode prog_11_method_89_code 26 = .ok (.sipush 681, 3) := by decide +kernel
theorem d_R_says_29 : decode prog_11_method_89_code 29 = .ok (.iload_n 1, 1) := by decide +kernel
theorem d_R_says_30 : decode prog_11_method_89_code 30 = .ok (.imul, 1) := by decide +kernel
theorem d_R_says_31 : decode prog_11_method_89_code 31 = .ok (.iconst 1, 1) := by decide +kernel
theorem d_R_says_32 : decode prog_11_method_89_code 32 = .ok (.iadd, 1) := by decide +kernel
theorem d_R_says_33 : decode prog_11_method_89_code 33 = .ok (.iconst 3, 1) := by decide +kernel
theorem d_R_says_34 : decode prog_11_method_89_code 34 = .ok (.iload 5, 2) := by decide +kernel
theorem d_R_says_36 : decode prog_11_method_89_code 36 = .ok (.imul, 1) := by decide +kernel
theorem d_R_says_37 : decode prog_11_method_89_code 37 = .ok (.iadd, 1) := by decide +kernel
theorem d_R_says_38 : decode prog_11_method_89_code 38 = .ok (.iaload, 1) := by decide +kernel
theorem d_R_says_39 : decode prog_11_method_89_code 39 = .ok (.iload_n 2, 1) := by decide +kernel
theorem d_R_says_40 : decode prog_11_method_89_code 40 = .ok (.if_icmp .ne 17, 3) := by decide +kernel
theorem d_R_says_43 : decode prog_11_method_89_code 43 = .ok (.aload_n 0, 1) := by decide +kernel
theorem d_R_says_44 : decode prog_11_method_89_code 44 = .ok (.iload_n 1, 1) := by decide +kernel
theorem d_R_says_45 : decode prog_11_method_89_code 45 = .ok (.iload 5, 2) := by decide +kernel
theorem d_R_says_47 : decode prog_11_method_89_code 47 = .ok (.invokevirtual 356, 3) := by decide +kernel
theorem d_R_says_50 : decode prog_11_method_89_code 50 = .ok (.iconst 0, 1) := by decide +kernel
theorem d_R_says_51 : decode prog_11_method_89_code 51 = .ok (.iload 4, 2) := by decide +kernel
theorem d_R_says_53 : decode prog_11_method_89_code 53 = .ok (.invokestatic 359, 3) := by decide +kernel
theorem d_R_says_56 : decode prog_11_method_89_code 56 = .ok (.ireturn, 1) := by decide +kernel
theorem d_R_says_57 : decode prog_11_method_89_code 57 = .ok (.iinc 5 1, 3) := by decide +kernel
theorem d_R_says_60 : decode prog_11_method_89_code 60 = .ok (.goto (-57), 3) := by decide +kernel
theorem d_R_says_63 : decode prog_11_method_89_code 63 = .ok (.iload_n 3, 1) := by decide +kernel
theorem d_R_says_64 : decode prog_11_method_89_code 64 = .ok (.ireturn, 1) := by decide +kernel
theorem d_R_summedUp_0 : decode prog_11_method_88_code 0 = .ok (.sipush 681, 3) := by decide +kernel
theorem d_R_summedUp_3 : decode prog_11_method_88_code 3 = .ok (.iload_n 1, 1) := by decide +kernel
theorem d_R_summedUp_4 : decode prog_11_method_88_code 4 = .ok (.imul, 1) := by decide +kernel
theorem d_R_summedUp_5 : decode prog_11_method_88_code 5 = .ok (.iconst 1, 1) := by decide +kernel
theorem d_R_summedUp_6 : decode prog_11_method_88_code 6 = .ok (.iadd, 1) := by decide +kernel
theorem d_R_summedUp_7 : decode prog_11_method_88_code 7 = .ok (.iconst 3, 1) := by decide +kernel
theorem d_R_summedUp_8 : decode prog_11_method_88_code 8 = .ok (.iload_n 2, 1) := by decide +kernel
theorem d_R_summedUp_9 : decode prog_11_method_88_code 9 = .ok (.imul, 1) := by decide +kernel
theorem d_R_summedUp_10 : decode prog_11_method_88_code 10 = .ok (.iadd, 1) := by decide +kernel
theorem d_R_summedUp_11 : decode prog_11_method_88_code 11 = .ok (.istore_n 3, 1) := by decide +kernel
theorem d_R_summedUp_12 : decode prog_11_method_88_code 12 = .ok (.sipush 681, 3) := by decide +kernel
theorem d_R_summedUp_15 : decode prog_11_method_88_code 15 = .ok (.iload_n 1, 1) := by decide +kernel
theorem d_R_summedUp_16 : decode prog_11_method_88_code 16 = .ok (.imul, 1) := by decide +kernel
theorem d_R_summedUp_17 : decode prog_11_method_88_code 17 = .ok (.bipush 73, 2) := by decide +kernel
theorem d_R_summedUp_19 : decode prog_11_method_88_code 19 = .ok (.iadd, 1) := by decide +kernel
theorem d_R_summedUp_20 : decode prog_11_method_88_code 20 = .ok (.istore 4, 2) := by decide +kernel
theorem d_R_summedUp_22 : decode prog_11_method_88_code 22 = .ok (.iconst 0, 1) := by decide +kernel
theorem d_R_summedUp_23 : decode prog_11_method_88_code 23 = .ok (.istore 5, 2) := by decide +kernel
theorem d_R_summedUp_25 : decode prog_11_method_88_code 25 = .ok (.iconst 0, 1) := by decide +kernel
theorem d_R_summedUp_26 : decode prog_11_method_88_code 26 = .ok (.istore 6, 2) := by decide +kernel
theorem d_R_summedUp_28 : decode prog_11_method_88_code 28 = .ok (.aload_n 0, 1) := by decide +kernel
theorem d_R_summedUp_29 : decode prog_11_method_88_code 29 = .ok (.getfield 28, 3) := by decide +kernel
theorem d_R_summedUp_32 : decode prog_11_method_88_code 32 = .ok (.iload_n 3, 1) := by decide +kernel
theorem d_R_summedUp_33 : decode prog_11_method_88_code 33 = .ok (.iconst 1, 1) := by decide +kernel
theorem d_R_summedUp_34 : decode prog_11_method_88_code 34 = .ok (.iadd, 1) := by decide +kernel
theorem d_R_summedUp_35 : decode prog_11_method_88_code 35 = .ok (.iaload, 1) := by decide +kernel
theorem d_R_summedUp_36 : decode prog_11_method_88_code 36 = .ok (.istore 7, 2) := by decide +kernel
theorem d_R_summedUp_38 : decode prog_11_method_88_code 38 = .ok (.iload 7, 2) := by decide +kernel
theorem d_R_summedUp_40 : decode prog_11_method_88_code 40 = .ok (.aload_n 0, 1) := by decide +kernel
theorem d_R_summedUp_41 : decode prog_11_method_88_code 41 = .ok (.getfield 28, 3) := by decide +kernel
theorem d_R_summedUp_44 : decode prog_11_method_88_code 44 = .ok (.iload_n 3, 1) := by decide +kernel
theorem d_R_summedUp_45 : decode prog_11_method_88_code 45 = .ok (.iconst 2, 1) := by decide +kernel
theorem d_R_summedUp_46 : decode prog_11_method_88_code 46 = .ok (.iadd, 1) := by decide +kernel
theorem d_R_summedUp_47 : decode prog_11_method_88_code 47 = .ok (.iaload, 1) := by decide +kernel
theorem d_R_summedUp_48 : decode prog_11_method_88_code 48 = .ok (.if_icmp .ge 307, 3) := by decide +kernel
theorem d_R_summedUp_51 : decode prog_11_method_88_code 51 = .ok (.aload_n 0, 1) := by decide +kernel
theorem d_R_summedUp_52 : decode prog_11_method_88_code 52 = .ok (.getfield 28, 3) := by decide +kernel
theorem d_R_summedUp_55 : decode prog_11_method_88_code 55 = .ok (.iload 4, 2) := by decide +kernel
theorem d_R_summedUp_57 : decode prog_11_method_88_code 57 = .ok (.iconst 2, 1) := by decide +kernel
theorem d_R_summedUp_58 : decode prog_11_method_88_code 58 = .ok (.iload 7, 2) := by decide +kernel
theorem d_R_summedUp_60 : decode prog_11_method_88_code 60 = .ok (.imul, 1) := by decide +kernel
theorem d_R_summedUp_61 : decode prog_11_method_88_code 61 = .ok (.iadd, 1) := by decide +kernel
theorem d_R_summedUp_62 : decode prog_11_method_88_code 62 = .ok (.iaload, 1) := by decide +kernel
theorem d_R_summedUp_63 : decode prog_11_method_88_code 63 = .ok (.istore 8, 2) := by decide +kernel
theorem d_R_summedUp_65 : decode prog_11_method_88_code 65 = .ok (.aload_n 0, 1) := by decide +kernel
theorem d_R_summedUp_66 : decode prog_11_method_88_code 66 = .ok (.getfield 28, 3) := by decide +kernel
theorem d_R_summedUp_69 : decode prog_11_method_88_code 69 = .ok (.iload 4, 2) := by decide +kernel
theorem d_R_summedUp_71 : decode prog_11_method_88_code 71 = .ok (.iconst 2, 1) := by decide +kernel
theorem d_R_summedUp_72 : decode prog_11_method_88_code 72 = .ok (.iload 7, 2) := by decide +kernel
theorem d_R_summedUp_74 : decode prog_11_method_88_code 74 = .ok (.imul, 1) := by decide +kernel
theorem d_R_summedUp_75 : decode prog_11_method_88_code 75 = .ok (.iadd, 1) := by decide +kernel
theorem d_R_summedUp_76 : decode prog_11_method_88_code 76 = .ok (.iconst 1, 1) := by decide +kernel
theorem d_R_summedUp_77 : decode prog_11_method_88_code 77 = .ok (.iadd, 1) := by decide +kernel
theorem d_R_summedUp_78 : decode prog_11_method_88_code 78 = .ok (.iaload, 1) := by decide +kernel
theorem d_R_summedUp_79 : decode prog_11_method_88_code 79 = .ok (.istore 9, 2) := by decide +kernel
theorem d_R_summedUp_81 : decode prog_11_method_88_code 81 = .ok (.iload 8, 2) := by decide +kernel
theorem d_R_summedUp_83 : decode prog_11_method_88_code 83 = .ok (.iconst 1, 1) := by decide +kernel
theorem d_R_summedUp_84 : decode prog_11_method_88_code 84 = .ok (.if_icmp .gt 35, 3) := by decide +kernel
theorem d_R_summedUp_87 : decode prog_11_method_88_code 87 = .ok (.aload_n 0, 1) := by decide +kernel
theorem d_R_summedUp_88 : decode prog_11_method_88_code 88 = .ok (.getfield 53, 3) := by decide +kernel
theorem d_R_summedUp_91 : decode prog_11_method_88_code 91 = .ok (.iload 5, 2) := by decide +kernel
theorem d_R_summedUp_93 : decode prog_11_method_88_code 93 = .ok (.iload 8, 2) := by decide +kernel
theorem d_R_summedUp_95 : decode prog_11_method_88_code 95 = .ok (.ifCond .ne 9, 3) := by decide +kernel
theorem d_R_summedUp_98 : decode prog_11_method_88_code 98 = .ok (.iload 9, 2) := by decide +kernel
theorem d_R_summedUp_100 : decode prog_11_method_88_code 100 = .ok (.i2l, 1) := by decide +kernel
theorem d_R_summedUp_101 : decode prog_11_method_88_code 101 = .ok (.goto 11, 3) := by decide +kernel
theorem d_R_summedUp_104 : decode prog_11_method_88_code 104 = .ok (.aload_n 0, 1) := by decide +kernel
theorem d_R_summedUp_105 : decode prog_11_method_88_code 105 = .ok (.getfield 50, 3) := by decide +kernel
theorem d_R_summedUp_108 : decode prog_11_method_88_code 108 = .ok (.iload 9, 2) := by decide +kernel
theorem d_R_summedUp_110 : decode prog_11_method_88_code 110 = .ok (.iaload, 1) := by decide +kernel
theorem d_R_summedUp_111 : decode prog_11_method_88_code 111 = .ok (.i2l, 1) := by decide +kernel
theorem d_R_summedUp_112 : decode prog_11_method_88_code 112 = .ok (.lastore, 1) := by decide +kernel
theorem d_R_summedUp_113 : decode prog_11_method_88_code 113 = .ok (.iinc 5 1, 3) := by decide +kernel
theorem d_R_summedUp_116 : decode prog_11_method_88_code 116 = .ok (.goto 233, 3) := by decide +kernel
theorem d_R_summedUp_119 : decode prog_11_method_88_code 119 = .ok (.iload 8, 2) := by decide +kernel
theorem d_R_summedUp_121 : decode prog_11_method_88_code 121 = .ok (.iconst 3, 1) := by decide +kernel
theorem d_R_summedUp_122 : decode prog_11_method_88_code 122 = .ok (.if_icmp .ne 38, 3) := by decide +kernel
theorem d_R_summedUp_125 : decode prog_11_method_88_code 125 = .ok (.iinc 5 (-1), 3) := by decide +kernel
theorem d_R_summedUp_128 : decode prog_11_method_88_code 128 = .ok (.iinc 6 (-1), 3) := by decide +kernel
theorem d_R_summedUp_131 : decode prog_11_method_88_code 131 = .ok (.aload_n 0, 1) := by decide +kernel
theorem d_R_summedUp_132 : decode prog_11_method_88_code 132 = .ok (.getfield 57, 3) := by decide +kernel
theorem d_R_summedUp_135 : decode prog_11_method_88_code 135 = .ok (.iload 6, 2) := by decide +kernel
theorem d_R_summedUp_137 : decode prog_11_method_88_code 137 = .ok (.baload, 1) := by decide +kernel
theorem d_R_summedUp_138 : decode prog_11_method_88_code 138 = .ok (.ifCond .ne 211, 3) := by decide +kernel
theorem d_R_summedUp_141 : decode prog_11_method_88_code 141 = .ok (.aload_n 0, 1) := by decide +kernel
theorem d_R_summedUp_142 : decode prog_11_method_88_code 142 = .ok (.getfield 53, 3) := by decide +kernel
theorem d_R_summedUp_145 : decode prog_11_method_88_code 145 = .ok (.iload 5, 2) := by decide +kernel
theorem d_R_summedUp_147 : decode prog_11_method_88_code 147 = .ok (.iconst 1, 1) := by decide +kernel
theorem d_R_summedUp_148 : decode prog_11_method_88_code 148 = .ok (.isub, 1) := by decide +kernel
theorem d_R_summedUp_149 : decode prog_11_method_88_code 149 = .ok (.aload_n 0, 1) := by decide +kernel
theorem d_R_summedUp_150 : decode prog_11_method_88_code 150 = .ok (.getfield 53, 3) := by decide +kernel
theorem d_R_summedUp_153 : decode prog_11_method_88_code 153 = .ok (.iload 5, 2) := by decide +kernel
theorem d_R_summedUp_155 : decode prog_11_method_88_code 155 = .ok (.laload, 1) := by decide +kernel
theorem d_R_summedUp_156 : decode prog_11_method_88_code 156 = .ok (.lastore, 1) := by decide +kernel
theorem d_R_summedUp_157 : decode prog_11_method_88_code 157 = .ok (.goto 192, 3) := by decide +kernel
theorem d_R_summedUp_160 : decode prog_11_method_88_code 160 = .ok (.iload 8, 2) := by decide +kernel
theorem d_R_summedUp_162 : decode prog_11_method_88_code 162 = .ok (.iconst 5, 1) := by decide +kernel
theorem d_R_summedUp_163 : decode prog_11_method_88_code 163 = .ok (.if_icmp .gt 30, 3) := by decide +kernel
theorem d_R_summedUp_166 : decode prog_11_method_88_code 166 = .ok (.aload_n 0, 1) := by decide +kernel
theorem d_R_summedUp_167 : decode prog_11_method_88_code 167 = .ok (.getfield 53, 3) := by decide +kernel
theorem d_R_summedUp_170 : decode prog_11_method_88_code 170 = .ok (.iload 5, 2) := by decide +kernel
theorem d_R_summedUp_172 : decode prog_11_method_88_code 172 = .ok (.iconst 1, 1) := by decide +kernel
theorem d_R_summedUp_173 : decode prog_11_method_88_code 173 = .ok (.isub, 1) := by decide +kernel
theorem d_R_summedUp_174 : decode prog_11_method_88_code 174 = .ok (.aload_n 0, 1) := by decide +kernel
theorem d_R_summedUp_175 : decode prog_11_method_88_code 175 = .ok (.iload 8, 2) := by decide +kernel
theorem d_R_summedUp_177 : decode prog_11_method_88_code 177 = .ok (.aload_n 0, 1) := by decide +kernel
theorem d_R_summedUp_178 : decode prog_11_method_88_code 178 = .ok (.getfield 53, 3) := by decide +kernel
theorem d_R_summedUp_181 : decode prog_11_method_88_code 181 = .ok (.iload 5, 2) := by decide +kernel
theorem d_R_summedUp_183 : decode prog_11_method_88_code 183 = .ok (.iconst 1, 1) := by decide +kernel
theorem d_R_summedUp_184 : decode prog_11_method_88_code 184 = .ok (.isub, 1) := by decide +kernel
theorem d_R_summedUp_185 : decode prog_11_method_88_code 185 = .ok (.laload, 1) := by decide +kernel
theorem d_R_summedUp_186 : decode prog_11_method_88_code 186 = .ok (.invokevirtual 340, 3) := by decide +kernel
theorem d_R_summedUp_189 : decode prog_11_method_88_code 189 = .ok (.lastore, 1) := by decide +kernel
theorem d_R_summedUp_190 : decode prog_11_method_88_code 190 = .ok (.goto 159, 3) := by decide +kernel
theorem d_R_summedUp_193 : decode prog_11_method_88_code 193 = .ok (.iload 8, 2) := by decide +kernel
theorem d_R_summedUp_195 : decode prog_11_method_88_code 195 = .ok (.bipush 10, 2) := by decide +kernel
theorem d_R_summedUp_197 : decode prog_11_method_88_code 197 = .ok (.if_icmp .ge 39, 3) := by decide +kernel
theorem d_R_summedUp_200 : decode prog_11_method_88_code 200 = .ok (.iinc 5 (-1), 3) := by decide +kernel
theorem d_R_summedUp_203 : decode prog_11_method_88_code 203 = .ok (.aload_n 0, 1) := by decide +kernel
theorem d_R_summedUp_204 : decode prog_11_method_88_code 204 = .ok (.getfield 53, 3) := by decide +kernel
theorem d_R_summedUp_207 : decode prog_11_method_88_code 207 = .ok (.iload 5, 2) := by decide +kernel
theorem d_R_summedUp_209 : decode prog_11_method_88_code 209 = .ok (.iconst 1, 1) := by decide +kernel
theorem d_R_summedUp_210 : decode prog_11_method_88_code 210 = .ok (.isub, 1) := by decide +kernel
theorem d_R_summedUp_211 : decode prog_11_method_88_code 211 = .ok (.iload 8, 2) := by decide +kernel
theorem d_R_summedUp_213 : decode prog_11_method_88_code 213 = .ok (.aload_n 0, 1) := by decide +kernel
theorem d_R_summedUp_214 : decode prog_11_method_88_code 214 = .ok (.getfield 53, 3) := by decide +kernel
theorem d_R_summedUp_217 : decode prog_11_method_88_code 217 = .ok (.iload 5, 2) := by decide +kernel
theorem d_R_summedUp_219 : decode prog_11_method_88_code 219 = .ok (.iconst 1, 1) := by decide +kernel
theorem d_R_summedUp_220 : decode prog_11_method_88_code 220 = .ok (.isub, 1) := by decide +kernel
theorem d_R_summedUp_221 : decode prog_11_method_88_code 221 = .ok (.laload, 1) := by decide +kernel
theorem d_R_summedUp_222 : decode prog_11_method_88_code 222 = .ok (.aload_n 0, 1) := by decide +kernel
theorem d_R_summedUp_223 : decode prog_11_method_88_code 223 = .ok (.getfield 53, 3) := by decide +kernel
theorem d_R_summedUp_226 : decode prog_11_method_88_code 226 = .ok (.iload 5, 2) := by decide +kernel
theorem d_R_summedUp_228 : decode prog_11_method_88_code 228 = .ok (.laload, 1) := by decide +kernel
theorem d_R_summedUp_229 : decode prog_11_method_88_code 229 = .ok (.invokestatic 344, 3) := by decide +kernel
theorem d_R_summedUp_232 : decode prog_11_method_88_code 232 = .ok (.lastore, 1) := by decide +kernel
theorem d_R_summedUp_233 : decode prog_11_method_88_code 233 = .ok (.goto 116, 3) := by decide +kernel
theorem d_R_summedUp_236 : decode prog_11_method_88_code 236 = .ok (.iload 8, 2) := by decide +kernel
theorem d_R_summedUp_238 : decode prog_11_method_88_code 238 = .ok (.bipush 20, 2) := by decide +kernel
theorem d_R_summedUp_240 : decode prog_11_method_88_code 240 = .ok (.if_icmp .ge 40, 3) := by decide +kernel
theorem d_R_summedUp_243 : decode prog_11_method_88_code 243 = .ok (.iinc 5 (-2), 3) := by decide +kernel
theorem d_R_summedUp_246 : decode prog_11_method_88_code 246 = .ok (.aload_n 0, 1) := by decide +kernel
theorem d_R_summedUp_247 : decode prog_11_method_88_code 247 = .ok (.getfield 57, 3) := by decide +kernel
theorem d_R_summedUp_250 : decode prog_11_method_88_code 250 = .ok (.iload 6, 2) := by decide +kernel
theorem d_R_summedUp_252 : decode prog_11_method_88_code 252 = .ok (.iload 8, 2) := by decide +kernel
theorem d_R_summedUp_254 : decode prog_11_method_88_code 254 = .ok (.aload_n 0, 1) := by decide +kernel
theorem d_R_summedUp_255 : decode prog_11_method_88_code 255 = .ok (.getfield 53, 3) := by decide +kernel
theorem d_R_summedUp_258 : decode prog_11_method_88_code 258 = .ok (.iload 5, 2) := by decide +kernel
theorem d_R_summedUp_260 : decode prog_11_method_88_code 260 = .ok (.laload, 1) := by decide +kernel
theorem d_R_summedUp_261 : decode prog_11_method_88_code 261 = .ok (.aload_n 0, 1) := by decide +kernel
theorem d_R_summedUp_262 : decode prog_11_method_88_code 262 = .ok (.getfield 53, 3) := by decide +kernel
theorem d_R_summedUp_265 : decode prog_11_method_88_code 265 = .ok (.iload 5, 2) := by decide +kernel
theorem d_R_summedUp_267 : decode prog_11_method_88_code 267 = .ok (.iconst 1, 1) := by decide +kernel
theorem d_R_summedUp_268 : decode prog_11_method_88_code 268 = .ok (.iadd, 1) := by decide +kernel
theorem d_R_summedUp_269 : decode prog_11_method_88_code 269 = .ok (.laload, 1) := by decide +kernel
theorem d_R_summedUp_270 : decode prog_11_method_88_code 270 = .ok (.invokestatic 348, 3) := by decide +kernel
theorem d_R_summedUp_273 : decode prog_11_method_88_code 273 = .ok (.bastore, 1) := by decide +kernel
theorem d_R_summedUp_274 : decode prog_11_method_88_code 274 = .ok (.iinc 6 1, 3) := by decide +kernel
theorem d_R_summedUp_277 : decode prog_11_method_88_code 277 = .ok (.goto 72, 3) := by decide +kernel
theorem d_R_summedUp_280 : decode prog_11_method_88_code 280 = .ok (.iload 8, 2) := by decide +kernel
theorem d_R_summedUp_282 : decode prog_11_method_88_code 282 = .ok (.bipush 20, 2) := by decide +kernel
theorem d_R_summedUp_284 : decode prog_11_method_88_code 284 = .ok (.if_icmp .ne 32, 3) := by decide +kernel
theorem d_R_summedUp_287 : decode prog_11_method_88_code 287 = .ok (.aload_n 0, 1) := by decide +kernel
theorem d_R_summedUp_288 : decode prog_11_method_88_code 288 = .ok (.getfield 57, 3) := by decide +kernel
theorem d_R_summedUp_291 : decode prog_11_method_88_code 291 = .ok (.iload 6, 2) := by decide +kernel
theorem d_R_summedUp_293 : decode prog_11_method_88_code 293 = .ok (.iconst 1, 1) := by decide +kernel
theorem d_R_summedUp_294 : decode prog_11_method_88_code 294 = .ok (.isub, 1) := by decide +kernel
theorem d_R_summedUp_295 : decode prog_11_method_88_code 295 = .ok (.aload_n 0, 1) := by decide +kernel
theorem d_R_summedUp_296 : decode prog_11_method_88_code 296 = .ok (.getfield 57, 3) := by decide +kernel
theorem d_R_summedUp_299 : decode prog_11_method_88_code 299 = .ok (.iload 6, 2) := by decide +kernel
theorem d_R_summedUp_301 : decode prog_11_method_88_code 301 = .ok (.iconst 1, 1) := by decide +kernel
theorem d_R_summedUp_302 : decode prog_11_method_88_code 302 = .ok (.isub, 1) := by decide +kernel
theorem d_R_summedUp_303 : decode prog_11_method_88_code 303 = .ok (.baload, 1) := by decide +kernel
theorem d_R_summedUp_304 : decode prog_11_method_88_code 304 = .ok (.ifCond .ne 7, 3) := by decide +kernel
theorem d_R_summedUp_307 : decode prog_11_method_88_code 307 = .ok (.iconst 1, 1) := by decide +kernel
theorem d_R_summedUp_308 : decode prog_11_method_88_code 308 = .ok (.goto 4, 3) := by decide +kernel
theorem d_R_summedUp_311 : decode prog_11_method_88_code 311 = .ok (.iconst 0, 1) := by decide +kernel
theorem d_R_summedUp_312 : decode prog_11_method_88_code 312 = .ok (.bastore, 1) := by decide +kernel
theorem d_R_summedUp_313 : decode prog_11_method_88_code 313 = .ok (.goto 36, 3) := by decide +kernel
theorem d_R_summedUp_316 : decode prog_11_method_88_code 316 = .ok (.iinc 6 (-1), 3) := by decide +kernel
theorem d_R_summedUp_319 : decode prog_11_method_88_code 319 = .ok (.aload_n 0, 1) := by decide +kernel
theorem d_R_summedUp_320 : decode prog_11_method_88_code 320 = .ok (.getfield 57, 3) := by decide +kernel
theorem d_R_summedUp_323 : decode prog_11_method_88_code 323 = .ok (.iload 6, 2) := by decide +kernel
theorem d_R_summedUp_325 : decode prog_11_method_88_code 325 = .ok (.iconst 1, 1) := by decide +kernel
theorem d_R_summedUp_326 : decode prog_11_method_88_code 326 = .ok (.isub, 1) := by decide +kernel
theorem d_R_summedUp_327 : decode prog_11_method_88_code 327 = .ok (.iload 8, 2) := by decide +kernel
theorem d_R_summedUp_329 : decode prog_11_method_88_code 329 = .ok (.aload_n 0, 1) := by decide +kernel
theorem d_R_summedUp_330 : decode prog_11_method_88_code 330 = .ok (.getfield 57, 3) := by decide +kernel
theorem d_R_summedUp_333 : decode prog_11_method_88_code 333 = .ok (.iload 6, 2) := by decide +kernel
theorem d_R_summedUp_335 : decode prog_11_method_88_code 335 = .ok (.iconst 1, 1) := by decide +kernel
theorem d_R_summedUp_336 : decode prog_11_method_88_code 336 = .ok (.isub, 1) := by decide +kernel
theorem d_R_summedUp_337 : decode prog_11_method_88_code 337 = .ok (.baload, 1) := by decide +kernel
theorem d_R_summedUp_338 : decode prog_11_method_88_code 338 = .ok (.aload_n 0, 1) := by decide +kernel
theorem d_R_summedUp_339 : decode prog_11_method_88_code 339 = .ok (.getfield 57, 3) := by decide +kernel
theorem d_R_summedUp_342 : decode prog_11_method_88_code 342 = .ok (.iload 6, 2) := by decide +kernel
theorem d_R_summedUp_344 : decode prog_11_method_88_code 344 = .ok (.baload, 1) := by decide +kernel
theorem d_R_summedUp_345 : decode prog_11_method_88_code 345 = .ok (.invokestatic 352, 3) := by decide +kernel
theorem d_R_summedUp_348 : decode prog_11_method_88_code 348 = .ok (.bastore, 1) := by decide +kernel
theorem d_R_summedUp_349 : decode prog_11_method_88_code 349 = .ok (.iinc 7 1, 3) := by decide +kernel
theorem d_R_summedUp_352 : decode prog_11_method_88_code 352 = .ok (.goto (-314), 3) := by decide +kernel
theorem d_R_summedUp_355 : decode prog_11_method_88_code 355 = .ok (.aload_n 0, 1) := by decide +kernel
theorem d_R_summedUp_356 : decode prog_11_method_88_code 356 = .ok (.getfield 53, 3) := by decide +kernel
theorem d_R_summedUp_359 : decode prog_11_method_88_code 359 = .ok (.iconst 0, 1) := by decide +kernel
theorem d_R_summedUp_360 : decode prog_11_method_88_code 360 = .ok (.laload, 1) := by decide +kernel
theorem d_R_summedUp_361 : decode prog_11_method_88_code 361 = .ok (.lreturn, 1) := by decide +kernel
theorem d_R_ofOne_0 : decode prog_11_method_86_code 0 = .ok (.iload_n 1, 1) := by decide +kernel
theorem d_R_ofOne_1 : decode prog_11_method_86_code 1 = .ok (.iconst 5, 1) := by decide +kernel
theorem d_R_ofOne_2 : decode prog_11_method_86_code 2 = .ok (.if_icmp .ne 6, 3) := by decide +kernel
theorem d_R_ofOne_5 : decode prog_11_method_86_code 5 = .ok (.lload_n 2, 1) := by decide +kernel
theorem d_R_ofOne_6 : decode prog_11_method_86_code 6 = .ok (.lneg, 1) := by decide +kernel
theorem d_R_ofOne_7 : decode prog_11_method_86_code 7 = .ok (.lreturn, 1) := by decide +kernel
theorem d_R_ofOne_8 : decode prog_11_method_86_code 8 = .ok (.iload_n 1, 1) := by decide +kernel
theorem d_R_ofOne_9 : decode prog_11_method_86_code 9 = .ok (.iconst 4, 1) := by decide +kernel
theorem d_R_ofOne_10 : decode prog_11_method_86_code 10 = .ok (.if_icmp .ne 40, 3) := by decide +kernel
theorem d_R_ofOne_13 : decode prog_11_method_86_code 13 = .ok (.lload_n 2, 1) := by decide +kernel
theorem d_R_ofOne_14 : decode prog_11_method_86_code 14 = .ok (.lconst 0, 1) := by decide +kernel
theorem d_R_ofOne_15 : decode prog_11_method_86_code 15 = .ok (.lcmp, 1) := by decide +kernel
theorem d_R_ofOne_16 : decode prog_11_method_86_code 16 = .ok (.ifCond .lt 32, 3) := by decide +kernel
theorem d_R_ofOne_19 : decode prog_11_method_86_code 19 = .ok (.lload_n 2, 1) := by decide +kernel
theorem d_R_ofOne_20 : decode prog_11_method_86_code 20 = .ok (.aload_n 0, 1) := by decide +kernel
theorem d_R_ofOne_21 : decode prog_11_method_86_code 21 = .ok (.getfield 7, 3) := by decide +kernel
theorem d_R_ofOne_24 : decode prog_11_method_86_code 24 = .ok (.iconst 0, 1) := by decide +kernel
theorem d_R_ofOne_25 : decode prog_11_method_86_code 25 = .ok (.iaload, 1) := by decide +kernel
theorem d_R_ofOne_26 : decode prog_11_method_86_code 26 = .ok (.i2l, 1) := by decide +kernel
theorem d_R_ofOne_27 : decode prog_11_method_86_code 27 = .ok (.lcmp, 1) := by decide +kernel
theorem d_R_ofOne_28 : decode prog_11_method_86_code 28 = .ok (.ifCond .ge 20, 3) := by decide +kernel
theorem d_R_ofOne_31 : decode prog_11_method_86_code 31 = .ok (.aload_n 0, 1) := by decide +kernel
theorem d_R_ofOne_32 : decode prog_11_method_86_code 32 = .ok (.getfield 7, 3) := by decide +kernel
theorem d_R_ofOne_35 : decode prog_11_method_86_code 35 = .ok (.bipush 10, 2) := by decide +kernel
theorem d_R_ofOne_37 : decode prog_11_method_86_code 37 = .ok (.lload_n 2, 1) := by decide +kernel
theorem d_R_ofOne_38 : decode prog_11_method_86_code 38 = .ok (.l2i, 1) := by decide +kernel
theorem d_R_ofOne_39 : decode prog_11_method_86_code 39 = .ok (.iadd, 1) := by decide +kernel
theorem d_R_ofOne_40 : decode prog_11_method_86_code 40 = .ok (.iaload, 1) := by decide +kernel
theorem d_R_ofOne_41 : decode prog_11_method_86_code 41 = .ok (.invokestatic 121, 3) := by decide +kernel
theorem d_R_ofOne_44 : decode prog_11_method_86_code 44 = .ok (.i2l, 1) := by decide +kernel
theorem d_R_ofOne_45 : decode prog_11_method_86_code 45 = .ok (.goto 4, 3) := by decide +kernel
theorem d_R_ofOne_48 : decode prog_11_method_86_code 48 = .ok (.lconst 0, 1) := by decide +kernel
theorem d_R_ofOne_49 : decode prog_11_method_86_code 49 = .ok (.lreturn, 1) := by decide +kernel
theorem d_R_ofOne_50 : decode prog_11_method_86_code 50 = .ok (.lload_n 2, 1) := by decide +kernel
theorem d_R_ofOne_51 : decode prog_11_method_86_code 51 = .ok (.lconst 0, 1) := by decide +kernel
theorem d_R_ofOne_52 : decode prog_11_method_86_code 52 = .ok (.lcmp, 1) := by decide +kernel
theorem d_R_ofOne_53 : decode prog_11_method_86_code 53 = .ok (.ifCond .lt 37, 3) := by decide +kernel
theorem d_R_ofOne_56 : decode prog_11_method_86_code 56 = .ok (.lload_n 2, 1) := by decide +kernel
theorem d_R_ofOne_57 : decode prog_11_method_86_code 57 = .ok (.ldc2_w 338, 3) := by decide +kernel
theorem d_R_ofOne_60 : decode prog_11_method_86_code 60 = .ok (.lcmp, 1) := by decide +kernel
theorem d_R_ofOne_61 : decode prog_11_method_86_code 61 = .ok (.ifCond .ge 29, 3) := by decide +kernel
theorem d_R_ofOne_64 : decode prog_11_method_86_code 64 = .ok (.aload_n 0, 1) := by decide +kernel
theorem d_R_ofOne_65 : decode prog_11_method_86_code 65 = .ok (.getfield 7, 3) := by decide +kernel
theorem d_R_ofOne_68 : decode prog_11_method_86_code 68 = .ok (.bipush 10, 2) := by decide +kernel
theorem d_R_ofOne_70 : decode prog_11_method_86_code 70 = .ok (.aload_n 0, 1) := by decide +kernel
theorem d_R_ofOne_71 : decode prog_11_method_86_code 71 = .ok (.getfield 50, 3) := by decide +kernel
theorem d_R_ofOne_74 : decode prog_11_method_86_code 74 = .ok (.iconst 1, 1) := by decide +kernel
theorem d_R_ofOne_75 : decode prog_11_method_86_code 75 = .ok (.iaload, 1) := by decide +kernel
theorem d_R_ofOne_76 : decode prog_11_method_86_code 76 = .ok (.iadd, 1) := by decide +kernel
theorem d_R_ofOne_77 : decode prog_11_method_86_code 77 = .ok (.iaload, 1) := by decide +kernel
theorem d_R_ofOne_78 : decode prog_11_method_86_code 78 = .ok (.lload_n 2, 1) := by decide +kernel
theorem d_R_ofOne_79 : decode prog_11_method_86_code 79 = .ok (.l2i, 1) := by decide +kernel
theorem d_R_ofOne_80 : decode prog_11_method_86_code 80 = .ok (.invokestatic 94, 3) := by decide +kernel
theorem d_R_ofOne_83 : decode prog_11_method_86_code 83 = .ok (.ifCond .eq 7, 3) := by decide +kernel
theorem d_R_ofOne_86 : decode prog_11_method_86_code 86 = .ok (.lconst 1, 1) := by decide +kernel
theorem d_R_ofOne_87 : decode prog_11_method_86_code 87 = .ok (.goto 4, 3) := by decide +kernel
theorem d_R_ofOne_90 : decode prog_11_method_86_code 90 = .ok (.lconst 0, 1) := by decide +kernel
theorem d_R_ofOne_91 : decode prog_11_method_86_code 91 = .ok (.lreturn, 1) := by decide +kernel
theorem d_R_two_0 : decode prog_11_method_84_code 0 = .ok (.iload_n 0, 1) := by decide +kernel
theorem d_R_two_1 : decode prog_11_method_84_code 1 = .ok (.tableswitch 48 6 8 #[27, 34, 41], 27) := by decide +kernel
theorem d_R_two_28 : decode prog_11_method_84_code 28 = .ok (.lload_n 1, 1) := by decide +kernel
theorem d_R_two_29 : decode prog_11_method_84_code 29 = .ok (.lload_n 3, 1) := by decide +kernel
theorem d_R_two_30 : decode prog_11_method_84_code 30 = .ok (.ladd, 1) := by decide +kernel
theorem d_R_two_31 : decode prog_11_method_84_code 31 = .ok (.invokestatic 334, 3) := by decide +kernel
theorem d_R_two_34 : decode prog_11_method_84_code 34 = .ok (.lreturn, 1) := by decide +kernel
theorem d_R_two_35 : decode prog_11_method_84_code 35 = .ok (.lload_n 1, 1) := by decide +kernel
theorem d_R_two_36 : decode prog_11_method_84_code 36 = .ok (.lload_n 3, 1) := by decide +kernel
theorem d_R_two_37 : decode prog_11_method_84_code 37 = .ok (.lsub, 1) := by decide +kernel
theorem d_R_two_38 : decode prog_11_method_84_code 38 = .ok (.invokestatic 334, 3) := by decide +kernel
theorem d_R_two_41 : decode prog_11_method_84_code 41 = .ok (.lreturn, 1) := by decide +kernel
theorem d_R_two_42 : decode prog_11_method_84_code 42 = .ok (.lload_n 1, 1) := by decide +kernel
theorem d_R_two_43 : decode prog_11_method_84_code 43 = .ok (.lload_n 3, 1) := by decide +kernel
theorem d_R_two_44 : decode prog_11_method_84_code 44 = .ok (.lmul, 1) := by decide +kernel
theorem d_R_two_45 : decode prog_11_method_84_code 45 = .ok (.invokestatic 334, 3) := by decide +kernel
theorem d_R_two_48 : decode prog_11_method_84_code 48 = .ok (.lreturn, 1) := by decide +kernel
theorem d_R_two_49 : decode prog_11_method_84_code 49 = .ok (.lload_n 3, 1) := by decide +kernel
theorem d_R_two_50 : decode prog_11_method_84_code 50 = .ok (.lconst 0, 1) := by decide +kernel
theorem d_R_two_51 : decode prog_11_method_84_code 51 = .ok (.lcmp, 1) := by decide +kernel
theorem d_R_two_52 : decode prog_11_method_84_code 52 = .ok (.ifCond .ne 7, 3) := by decide +kernel
theorem d_R_two_55 : decode prog_11_method_84_code 55 = .ok (.lconst 0, 1) := by decide +kernel
theorem d_R_two_56 : decode prog_11_method_84_code 56 = .ok (.goto 9, 3) := by decide +kernel
theorem d_R_two_59 : decode prog_11_method_84_code 59 = .ok (.lload_n 1, 1) := by decide +kernel
theorem d_R_two_60 : decode prog_11_method_84_code 60 = .ok (.lload_n 3, 1) := by decide +kernel
theorem d_R_two_61 : decode prog_11_method_84_code 61 = .ok (.ldiv, 1) := by decide +kernel
theorem d_R_two_62 : decode prog_11_method_84_code 62 = .ok (.invokestatic 334, 3) := by decide +kernel
theorem d_R_two_65 : decode prog_11_method_84_code 65 = .ok (.lreturn, 1) := by decide +kernel
theorem d_R_clip_0 : decode prog_11_method_83_code 0 = .ok (.lload_n 0, 1) := by decide +kernel
theorem d_R_clip_1 : decode prog_11_method_83_code 1 = .ok (.ldc2_w 330, 3) := by decide +kernel
theorem d_R_clip_4 : decode prog_11_method_83_code 4 = .ok (.lcmp, 1) := by decide +kernel
theorem d_R_clip_5 : decode prog_11_method_83_code 5 = .ok (.ifCond .le 9, 3) := by decide +kernel
theorem d_R_clip_8 : decode prog_11_method_83_code 8 = .ok (.ldc2_w 330, 3) := by decide +kernel
theorem d_R_clip_11 : decode prog_11_method_83_code 11 = .ok (.goto 18, 3) := by decide +kernel
theorem d_R_clip_14 : decode prog_11_method_83_code 14 = .ok (.lload_n 0, 1) := by decide +kernel
theorem d_R_clip_15 : decode prog_11_method_83_code 15 = .ok (.ldc2_w 332, 3) := by decide +kernel
theorem d_R_clip_18 : decode prog_11_method_83_code 18 = .ok (.lcmp, 1) := by decide +kernel
theorem d_R_clip_19 : decode prog_11_method_83_code 19 = .ok (.ifCond .ge 9, 3) := by decide +kernel
theorem d_R_clip_22 : decode prog_11_method_83_code 22 = .ok (.ldc2_w 332, 3) := by decide +kernel
theorem d_R_clip_25 : decode prog_11_method_83_code 25 = .ok (.goto 4, 3) := by decide +kernel
theorem d_R_clip_28 : decode prog_11_method_83_code 28 = .ok (.lload_n 0, 1) := by decide +kernel
theorem d_R_clip_29 : decode prog_11_method_83_code 29 = .ok (.lreturn, 1) := by decide +kernel
theorem d_R_isAsked_0 : decode prog_11_method_85_code 0 = .ok (.iload_n 0, 1) := by decide +kernel
theorem d_R_isAsked_1 : decode prog_11_method_85_code 1 = .ok (.bipush 10, 2) := by decide +kernel
theorem d_R_isAsked_3 : decode prog_11_method_85_code 3 = .ok (.if_icmp .ne 17, 3) := by decide +kernel
theorem d_R_isAsked_6 : decode prog_11_method_85_code 6 = .ok (.lload_n 1, 1) := by decide +kernel
theorem d_R_isAsked_7 : decode prog_11_method_85_code 7 = .ok (.lload_n 3, 1) := by decide +kernel
theorem d_R_isAsked_8 : decode prog_11_method_85_code 8 = .ok (.lcmp, 1) := by decide +kernel
theorem d_R_isAsked_9 : decode prog_11_method_85_code 9 = .ok (.ifCond .ge 7, 3) := by decide +kernel
theorem d_R_isAsked_12 : decode prog_11_method_85_code 12 = .ok (.iconst 1, 1) := by decide +kernel
theorem d_R_isAsked_13 : decode prog_11_method_85_code 13 = .ok (.goto 98, 3) := by decide +kernel
theorem d_R_isAsked_16 : decode prog_11_method_85_code 16 = .ok (.iconst 0, 1) := by decide +kernel
theorem d_R_isAsked_17 : decode prog_11_method_85_code 17 = .ok (.goto 94, 3) := by decide +kernel
theorem d_R_isAsked_20 : decode prog_11_method_85_code 20 = .ok (.iload_n 0, 1) := by decide +kernel
theorem d_R_isAsked_21 : decode prog_11_method_85_code 21 = .ok (.bipush 11, 2) := by decide +kernel
theorem d_R_isAsked_23 : decode prog_11_method_85_code 23 = .ok (.if_icmp .ne 17, 3) := by decide +kernel
theorem d_R_isAsked_26 : decode prog_11_method_85_code 26 = .ok (.lload_n 1, 1) := by decide +kernel
theorem d_R_isAsked_27 : decode prog_11_method_85_code 27 = .ok (.lload_n 3, 1) := by decide +kernel
theorem d_R_isAsked_28 : decode prog_11_method_85_code 28 = .ok (.lcmp, 1) := by decide +kernel
theorem d_R_isAsked_29 : decode prog_11_method_85_code 29 = .ok (.ifCond .gt 7, 3) := by decide +kernel
theorem d_R_isAsked_32 : decode prog_11_method_85_code 32 = .ok (.iconst 1, 1) := by decide +kernel
theorem d_R_isAsked_33 : decode prog_11_method_85_code 33 = .ok (.goto 78, 3) := by decide +kernel
theorem d_R_isAsked_36 : decode prog_11_method_85_code 36 = .ok (.iconst 0, 1) := by decide +kernel
theorem d_R_isAsked_37 : decode prog_11_method_85_code 37 = .ok (.goto 74, 3) := by decide +kernel
theorem d_R_isAsked_40 : decode prog_11_method_85_code 40 = .ok (.iload_n 0, 1) := by decide +kernel
theorem d_R_isAsked_41 : decode prog_11_method_85_code 41 = .ok (.bipush 12, 2) := by decide +kernel
theorem d_R_isAsked_43 : decode prog_11_method_85_code 43 = .ok (.if_icmp .ne 17, 3) := by decide +kernel
theorem d_R_isAsked_46 : decode prog_11_method_85_code 46 = .ok (.lload_n 1, 1) := by decide +kernel
theorem d_R_isAsked_47 : decode prog_11_method_85_code 47 = .ok (.lload_n 3, 1) := by decide +kernel
theorem d_R_isAsked_48 : decode prog_11_method_85_code 48 = .ok (.lcmp, 1) := by decide +kernel
theorem d_R_isAsked_49 : decode prog_11_method_85_code 49 = .ok (.ifCond .le 7, 3) := by decide +kernel
theorem d_R_isAsked_52 : decode prog_11_method_85_code 52 = .ok (.iconst 1, 1) := by decide +kernel
theorem d_R_isAsked_53 : decode prog_11_method_85_code 53 = .ok (.goto 58, 3) := by decide +kernel
theorem d_R_isAsked_56 : decode prog_11_method_85_code 56 = .ok (.iconst 0, 1) := by decide +kernel
theorem d_R_isAsked_57 : decode prog_11_method_85_code 57 = .ok (.goto 54, 3) := by decide +kernel
theorem d_R_isAsked_60 : decode prog_11_method_85_code 60 = .ok (.iload_n 0, 1) := by decide +kernel
theorem d_R_isAsked_61 : decode prog_11_method_85_code 61 = .ok (.bipush 13, 2) := by decide +kernel
theorem d_R_isAsked_63 : decode prog_11_method_85_code 63 = .ok (.if_icmp .ne 17, 3) := by decide +kernel
theorem d_R_isAsked_66 : decode prog_11_method_85_code 66 = .ok (.lload_n 1, 1) := by decide +kernel
theorem d_R_isAsked_67 : decode prog_11_method_85_code 67 = .ok (.lload_n 3, 1) := by decide +kernel
theorem d_R_isAsked_68 : decode prog_11_method_85_code 68 = .ok (.lcmp, 1) := by decide +kernel
theorem d_R_isAsked_69 : decode prog_11_method_85_code 69 = .ok (.ifCond .lt 7, 3) := by decide +kernel
theorem d_R_isAsked_72 : decode prog_11_method_85_code 72 = .ok (.iconst 1, 1) := by decide +kernel
theorem d_R_isAsked_73 : decode prog_11_method_85_code 73 = .ok (.goto 38, 3) := by decide +kernel
theorem d_R_isAsked_76 : decode prog_11_method_85_code 76 = .ok (.iconst 0, 1) := by decide +kernel
theorem d_R_isAsked_77 : decode prog_11_method_85_code 77 = .ok (.goto 34, 3) := by decide +kernel
theorem d_R_isAsked_80 : decode prog_11_method_85_code 80 = .ok (.iload_n 0, 1) := by decide +kernel
theorem d_R_isAsked_81 : decode prog_11_method_85_code 81 = .ok (.bipush 14, 2) := by decide +kernel
theorem d_R_isAsked_83 : decode prog_11_method_85_code 83 = .ok (.if_icmp .ne 17, 3) := by decide +kernel
theorem d_R_isAsked_86 : decode prog_11_method_85_code 86 = .ok (.lload_n 1, 1) := by decide +kernel
theorem d_R_isAsked_87 : decode prog_11_method_85_code 87 = .ok (.lload_n 3, 1) := by decide +kernel
theorem d_R_isAsked_88 : decode prog_11_method_85_code 88 = .ok (.lcmp, 1) := by decide +kernel
theorem d_R_isAsked_89 : decode prog_11_method_85_code 89 = .ok (.ifCond .ne 7, 3) := by decide +kernel
theorem d_R_isAsked_92 : decode prog_11_method_85_code 92 = .ok (.iconst 1, 1) := by decide +kernel
theorem d_R_isAsked_93 : decode prog_11_method_85_code 93 = .ok (.goto 18, 3) := by decide +kernel
theorem d_R_isAsked_96 : decode prog_11_method_85_code 96 = .ok (.iconst 0, 1) := by decide +kernel
theorem d_R_isAsked_97 : decode prog_11_method_85_code 97 = .ok (.goto 14, 3) := by decide +kernel
theorem d_R_isAsked_100 : decode prog_11_method_85_code 100 = .ok (.lload_n 1, 1) := by decide +kernel
theorem d_R_isAsked_101 : decode prog_11_method_85_code 101 = .ok (.lload_n 3, 1) := by decide +kernel
theorem d_R_isAsked_102 : decode prog_11_method_85_code 102 = .ok (.lcmp, 1) := by decide +kernel
theorem d_R_isAsked_103 : decode prog_11_method_85_code 103 = .ok (.ifCond .eq 7, 3) := by decide +kernel
theorem d_R_isAsked_106 : decode prog_11_method_85_code 106 = .ok (.iconst 1, 1) := by decide +kernel
theorem d_R_isAsked_107 : decode prog_11_method_85_code 107 = .ok (.goto 4, 3) := by decide +kernel
theorem d_R_isAsked_110 : decode prog_11_method_85_code 110 = .ok (.iconst 0, 1) := by decide +kernel
theorem d_R_isAsked_111 : decode prog_11_method_85_code 111 = .ok (.ireturn, 1) := by decide +kernel
theorem d_R_joinedTruth_0 : decode prog_11_method_87_code 0 = .ok (.iload_n 0, 1) := by decide +kernel
theorem d_R_joinedTruth_1 : decode prog_11_method_87_code 1 = .ok (.bipush 21, 2) := by decide +kernel
theorem d_R_joinedTruth_3 : decode prog_11_method_87_code 3 = .ok (.if_icmp .ne 19, 3) := by decide +kernel
theorem d_R_joinedTruth_6 : decode prog_11_method_87_code 6 = .ok (.iload_n 1, 1) := by decide +kernel
theorem d_R_joinedTruth_7 : decode prog_11_method_87_code 7 = .ok (.ifCond .eq 11, 3) := by decide +kernel
theorem d_R_joinedTruth_10 : decode prog_11_method_87_code 10 = .ok (.iload_n 2, 1) := by decide +kernel
theorem d_R_joinedTruth_11 : decode prog_11_method_87_code 11 = .ok (.ifCond .eq 7, 3) := by decide +kernel
theorem d_R_joinedTruth_14 : decode prog_11_method_87_code 14 = .ok (.iconst 1, 1) := by decide +kernel
theorem d_R_joinedTruth_15 : decode prog_11_method_87_code 15 = .ok (.goto 20, 3) := by decide +kernel
theorem d_R_joinedTruth_18 : decode prog_11_method_87_code 18 = .ok (.iconst 0, 1) := by decide +kernel
theorem d_R_joinedTruth_19 : decode prog_11_method_87_code 19 = .ok (.goto 16, 3) := by decide +kernel
theorem d_R_joinedTruth_22 : decode prog_11_method_87_code 22 = .ok (.iload_n 1, 1) := by decide +kernel
theorem d_R_joinedTruth_23 : decode prog_11_method_87_code 23 = .ok (.ifCond .ne 7, 3) := by decide +kernel
theorem d_R_joinedTruth_26 : decode prog_11_method_87_code 26 = .ok (.iload_n 2, 1) := by decide +kernel
theorem d_R_joinedTruth_27 : decode prog_11_method_87_code 27 = .ok (.ifCond .eq 7, 3) := by decide +kernel
theorem d_R_joinedTruth_30 : decode prog_11_method_87_code 30 = .ok (.iconst 1, 1) := by decide +kernel
theorem d_R_joinedTruth_31 : decode prog_11_method_87_code 31 = .ok (.goto 4, 3) := by decide +kernel
theorem d_R_joinedTruth_34 : decode prog_11_method_87_code 34 = .ok (.iconst 0, 1) := by decide +kernel
theorem d_R_joinedTruth_35 : decode prog_11_method_87_code 35 = .ok (.ireturn, 1) := by decide +kernel
theorem d_R_held_0 : decode prog_11_method_6_code 0 = .ok (.lload_n 0, 1) := by decide +kernel
theorem d_R_held_1 : decode prog_11_method_6_code 1 = .ok (.iload_n 2, 1) := by decide +kernel
theorem d_R_held_2 : decode prog_11_method_6_code 2 = .ok (.i2l, 1) := by decide +kernel
theorem d_R_held_3 : decode prog_11_method_6_code 3 = .ok (.lcmp, 1) := by decide +kernel
theorem d_R_held_4 : decode prog_11_method_6_code 4 = .ok (.ifCond .ge 7, 3) := by decide +kernel
theorem d_R_held_7 : decode prog_11_method_6_code 7 = .ok (.iload_n 2, 1) := by decide +kernel
theorem d_R_held_8 : decode prog_11_method_6_code 8 = .ok (.goto 16, 3) := by decide +kernel
theorem d_R_held_11 : decode prog_11_method_6_code 11 = .ok (.lload_n 0, 1) := by decide +kernel
theorem d_R_held_12 : decode prog_11_method_6_code 12 = .ok (.iload_n 3, 1) := by decide +kernel
theorem d_R_held_13 : decode prog_11_method_6_code 13 = .ok (.i2l, 1) := by decide +kernel
theorem d_R_held_14 : decode prog_11_method_6_code 14 = .ok (.lcmp, 1) := by decide +kernel
theorem d_R_held_15 : decode prog_11_method_6_code 15 = .ok (.ifCond .le 7, 3) := by decide +kernel
theorem d_R_held_18 : decode prog_11_method_6_code 18 = .ok (.iload_n 3, 1) := by decide +kernel
theorem d_R_held_19 : decode prog_11_method_6_code 19 = .ok (.goto 5, 3) := by decide +kernel
theorem d_R_held_22 : decode prog_11_method_6_code 22 = .ok (.lload_n 0, 1) := by decide +kernel
theorem d_R_held_23 : decode prog_11_method_6_code 23 = .ok (.l2i, 1) := by decide +kernel
theorem d_R_held_24 : decode prog_11_method_6_code 24 = .ok (.ireturn, 1) := by decide +kernel
theorem d_R_drawnBy_0 : decode prog_11_method_94_code 0 = .ok (.aload_n 0, 1) := by decide +kernel
theorem d_R_drawnBy_1 : decode prog_11_method_94_code 1 = .ok (.getfield 7, 3) := by decide +kernel
theorem d_R_drawnBy_4 : decode prog_11_method_94_code 4 = .ok (.bipush 7, 2) := by decide +kernel
theorem d_R_drawnBy_6 : decode prog_11_method_94_code 6 = .ok (.iaload, 1) := by decide +kernel
theorem d_R_drawnBy_7 : decode prog_11_method_94_code 7 = .ok (.iload_n 1, 1) := by decide +kernel
theorem d_R_drawnBy_8 : decode prog_11_method_94_code 8 = .ok (.irem, 1) := by decide +kernel
theorem d_R_drawnBy_9 : decode prog_11_method_94_code 9 = .ok (.istore_n 2, 1) := by decide +kernel
theorem d_R_drawnBy_10 : decode prog_11_method_94_code 10 = .ok (.aload_n 0, 1) := by decide +kernel
theorem d_R_drawnBy_11 : decode prog_11_method_94_code 11 = .ok (.invokevirtual 370, 3) := by decide +kernel
theorem d_R_drawnBy_14 : decode prog_11_method_94_code 14 = .ok (.iload_n 2, 1) := by decide +kernel
theorem d_R_drawnBy_15 : decode prog_11_method_94_code 15 = .ok (.ireturn, 1) := by decide +kernel
theorem d_R_anew_0 : decode prog_11_method_95_code 0 = .ok (.aload_n 0, 1) := by decide +kernel
theorem d_R_anew_1 : decode prog_11_method_95_code 1 = .ok (.getfield 7, 3) := by decide +kernel
theorem d_R_anew_4 : decode prog_11_method_95_code 4 = .ok (.bipush 7, 2) := by decide +kernel
theorem d_R_anew_6 : decode prog_11_method_95_code 6 = .ok (.aload_n 0, 1) := by decide +kernel
theorem d_R_anew_7 : decode prog_11_method_95_code 7 = .ok (.getfield 7, 3) := by decide +kernel
theorem d_R_anew_10 : decode prog_11_method_95_code 10 = .ok (.bipush 7, 2) := by decide +kernel
theorem d_R_anew_12 : decode prog_11_method_95_code 12 = .ok (.iaload, 1) := by decide +kernel
theorem d_R_anew_13 : decode prog_11_method_95_code 13 = .ok (.i2l, 1) := by decide +kernel
theorem d_R_anew_14 : decode prog_11_method_95_code 14 = .ok (.ldc2_w 373, 3) := by decide +kernel
theorem d_R_anew_17 : decode prog_11_method_95_code 17 = .ok (.lmul, 1) := by decide +kernel
theorem d_R_anew_18 : decode prog_11_method_95_code 18 = .ok (.ldc2_w 375, 3) := by decide +kernel
theorem d_R_anew_21 : decode prog_11_method_95_code 21 = .ok (.ladd, 1) := by decide +kernel
theorem d_R_anew_22 : decode prog_11_method_95_code 22 = .ok (.ldc2_w 377, 3) := by decide +kernel
theorem d_R_anew_25 : decode prog_11_method_95_code 25 = .ok (.lrem, 1) := by decide +kernel
theorem d_R_anew_26 : decode prog_11_method_95_code 26 = .ok (.l2i, 1) := by decide +kernel
theorem d_R_anew_27 : decode prog_11_method_95_code 27 = .ok (.iastore, 1) := by decide +kernel
theorem d_R_anew_28 : decode prog_11_method_95_code 28 = .ok (.return_, 1) := by decide +kernel
theorem d_R_wearsOf_0 : decode prog_11_method_91_code 0 = .ok (.aload_n 0, 1) := by decide +kernel
theorem d_R_wearsOf_1 : decode prog_11_method_91_code 1 = .ok (.iload_n 2, 1) := by decide +kernel
theorem d_R_wearsOf_2 : decode prog_11_method_91_code 2 = .ok (.iload_n 3, 1) := by decide +kernel
theorem d_R_wearsOf_3 : decode prog_11_method_91_code 3 = .ok (.invokevirtual 363, 3) := by decide +kernel
theorem d_R_wearsOf_6 : decode prog_11_method_91_code 6 = .ok (.aload_n 0, 1) := by decide +kernel
theorem d_R_wearsOf_7 : decode prog_11_method_91_code 7 = .ok (.iload_n 1, 1) := by decide +kernel
theorem d_R_wearsOf_8 : decode prog_11_method_91_code 8 = .ok (.iconst 0, 1) := by decide +kernel
theorem d_R_wearsOf_9 : decode prog_11_method_91_code 9 = .ok (.iconst 3, 1) := by decide +kernel
theorem d_R_wearsOf_10 : decode prog_11_method_91_code 10 = .ok (.bipush 10, 2) := by decide +kernel
theorem d_R_wearsOf_12 : decode prog_11_method_91_code 12 = .ok (.invokevirtual 366, 3) := by decide +kernel
theorem d_R_wearsOf_15 : decode prog_11_method_91_code 15 = .ok (.ireturn, 1) := by decide +kernel
theorem d_R_played_0 : decode prog_11_method_111_code 0 = .ok (.iload_n 1, 1) := by decide +kernel
theorem d_R_played_1 : decode prog_11_method_111_code 1 = .ok (.iconst 0, 1) := by decide +kernel
theorem d_R_played_2 : decode prog_11_method_111_code 2 = .ok (.aload_n 0, 1) := by decide +kernel
theorem d_R_played_3 : decode prog_11_method_111_code 3 = .ok (.getfield 7, 3) := by decide +kernel
theorem d_R_played_6 : decode prog_11_method_111_code 6 = .ok (.iconst 1, 1) := by decide +kernel
theorem d_R_played_7 : decode prog_11_method_111_code 7 = .ok (.iaload, 1) := by decide +kernel
theorem d_R_played_8 : decode prog_11_method_111_code 8 = .ok (.iconst 1, 1) := by decide +kernel
theorem d_R_played_9 : decode prog_11_method_111_code 9 = .ok (.isub, 1) := by decide +kernel
theorem d_R_played_10 : decode prog_11_method_111_code 10 = .ok (.invokestatic 89, 3) := by decide +kernel
theorem d_R_played_13 : decode prog_11_method_111_code 13 = .ok (.ifCond .ne 6, 3) := by decide +kernel
theorem d_R_played_16 : decode prog_11_method_111_code 16 = .ok (.bipush (-2), 2) := by decide +kernel
theorem d_R_played_18 : decode prog_11_method_111_code 18 = .ok (.ireturn, 1) := by decide +kernel
theorem d_R_played_19 : decode prog_11_method_111_code 19 = .ok (.iconst 0, 1) := by decide +kernel
theorem d_R_played_20 : decode prog_11_method_111_code 20 = .ok (.istore_n 2, 1) := by decide +kernel
theorem d_R_played_21 : decode prog_11_method_111_code 21 = .ok (.iload_n 2, 1) := by decide +kernel
theorem d_R_played_22 : decode prog_11_method_111_code 22 = .ok (.aload_n 0, 1) := by decide +kernel
theorem d_R_played_23 : decode prog_11_method_111_code 23 = .ok (.getfield 28, 3) := by decide +kernel
theorem d_R_played_26 : decode prog_11_method_111_code 26 = .ok (.sipush 681, 3) := by decide +kernel
theorem d_R_played_29 : decode prog_11_method_111_code 29 = .ok (.iload_n 1, 1) := by decide +kernel
theorem d_R_played_30 : decode prog_11_method_111_code 30 = .ok (.imul, 1) := by decide +kernel
theorem d_R_played_31 : decode prog_11_method_111_code 31 = .ok (.iaload, 1) := by decide +kernel
theorem d_R_played_32 : decode prog_11_method_111_code 32 = .ok (.if_icmp .ge 29, 3) := by decide +kernel
theorem d_R_played_35 : decode prog_11_method_111_code 35 = .ok (.aload_n 0, 1) := by decide +kernel
theorem d_R_played_36 : decode prog_11_method_111_code 36 = .ok (.sipush 681, 3) := by decide +kernel
theorem d_R_played_39 : decode prog_11_method_111_code 39 = .ok (.iload_n 1, 1) := by decide +kernel
theorem d_R_played_40 : decode prog_11_method_111_code 40 = .ok (.imul, 1) := by decide +kernel
theorem d_R_played_41 : decode prog_11_method_111_code 41 = .ok (.iconst 1, 1) := by decide +kernel
theorem d_R_played_42 : decode prog_11_method_111_code 42 = .ok (.iadd, 1) := by decide +kernel
theorem d_R_played_43 : decode prog_11_method_111_code 43 = .ok (.iconst 3, 1) := by decide +kernel
theorem d_R_played_44 : decode prog_11_method_111_code 44 = .ok (.iload_n 2, 1) := by decide +kernel
theorem d_R_played_45 : decode prog_11_method_111_code 45 = .ok (.imul, 1) := by decide +kernel
theorem d_R_played_46 : decode prog_11_method_111_code 46 = .ok (.iadd, 1) := by decide +kernel
theorem d_R_played_47 : decode prog_11_method_111_code 47 = .ok (.invokevirtual 440, 3) := by decide +kernel
theorem d_R_played_50 : decode prog_11_method_111_code 50 = .ok (.ifCond .ne 5, 3) := by decide +kernel
theorem d_R_played_53 : decode prog_11_method_111_code 53 = .ok (.iload_n 2, 1) := by decide +kernel
theorem d_R_played_54 : decode prog_11_method_111_code 54 = .ok (.ireturn, 1) := by decide +kernel
theorem d_R_played_55 : decode prog_11_method_111_code 55 = .ok (.iinc 2 1, 3) := by decide +kernel
theorem d_R_played_58 : decode prog_11_method_111_code 58 = .ok (.goto (-37), 3) := by decide +kernel
theorem d_R_played_61 : decode prog_11_method_111_code 61 = .ok (.iconst (-1), 1) := by decide +kernel
theorem d_R_played_62 : decode prog_11_method_111_code 62 = .ok (.ireturn, 1) := by decide +kernel
theorem d_R_isPlayed_0 : decode prog_11_method_110_code 0 = .ok (.aload_n 0, 1) := by decide +kernel
theorem d_R_isPlayed_1 : decode prog_11_method_110_code 1 = .ok (.getfield 28, 3) := by decide +kernel
theorem d_R_isPlayed_4 : decode prog_11_method_110_code 4 = .ok (.iload_n 1, 1) := by decide +kernel
theorem d_R_isPlayed_5 : decode prog_11_method_110_code 5 = .ok (.iconst 1, 1) := by decide +kernel
theorem d_R_isPlayed_6 : decode prog_11_method_110_code 6 = .ok (.iadd, 1) := by decide +kernel
theorem d_R_isPlayed_7 : decode prog_11_method_110_code 7 = .ok (.iaload, 1) := by decide +kernel
theorem d_R_isPlayed_8 : decode prog_11_method_110_code 8 = .ok (.istore_n 2, 1) := by decide +kernel
theorem d_R_isPlayed_9 : decode prog_11_method_110_code 9 = .ok (.aload_n 0, 1) := by decide +kernel
theorem d_R_isPlayed_10 : decode prog_11_method_110_code 10 = .ok (.getfield 28, 3) := by decide +kernel
theorem d_R_isPlayed_13 : decode prog_11_method_110_code 13 = .ok (.iload_n 1, 1) := by decide +kernel
theorem d_R_isPlayed_14 : decode prog_11_method_110_code 14 = .ok (.iconst 2, 1) := by decide +kernel
theorem d_R_isPlayed_15 : decode prog_11_method_110_code 15 = .ok (.iadd, 1) := by decide +kernel
theorem d_R_isPlayed_16 : decode prog_11_method_110_code 16 = .ok (.iaload, 1) := by decide +kernel
theorem d_R_isPlayed_17 : decode prog_11_method_110_code 17 = .ok (.istore_n 3, 1) := by decide +kernel
theorem d_R_isPlayed_18 : decode prog_11_method_110_code 18 = .ok (.aload_n 0, 1) := by decide +kernel
theorem d_R_isPlayed_19 : decode prog_11_method_110_code 19 = .ok (.getfield 28, 3) := by decide +kernel
theorem d_R_isPlayed_22 : decode prog_11_method_110_code 22 = .ok (.iload_n 1, 1) := by decide +kernel
theorem d_R_isPlayed_23 : decode prog_11_method_110_code 23 = .ok (.iaload, 1) := by decide +kernel
theorem d_R_isPlayed_24 : decode prog_11_method_110_code 24 = .ok (.tableswitch 84 2 6 #[36, 50, 57, 64, 78], 36) := by decide +kernel
theorem d_R_isPlayed_60 : decode prog_11_method_110_code 60 = .ok (.aload_n 0, 1) := by decide +kernel
theorem d_R_isPlayed_61 : decode prog_11_method_110_code 61 = .ok (.iload_n 2, 1) := by decide +kernel
theorem d_R_isPlayed_62 : decode prog_11_method_110_code 62 = .ok (.invokevirtual 428, 3) := by decide +kernel
theorem d_R_isPlayed_65 : decode prog_11_method_110_code 65 = .ok (.ifCond .lt 7, 3) := by decide +kernel
theorem d_R_isPlayed_68 : decode prog_11_method_110_code 68 = .ok (.iconst 1, 1) := by decide +kernel
theorem d_R_isPlayed_69 : decode prog_11_method_110_code 69 = .ok (.goto 4, 3) := by decide +kernel
theorem d_R_isPlayed_72 : decode prog_11_method_110_code 72 = .ok (.iconst 0, 1) := by decide +kernel
theorem d_R_isPlayed_73 : decode prog_11_method_110_code 73 = .ok (.ireturn, 1) := by decide +kernel
theorem d_R_isPlayed_74 : decode prog_11_method_110_code 74 = .ok (.aload_n 0, 1) := by decide +kernel
theorem d_R_isPlayed_75 : decode prog_11_method_110_code 75 = .ok (.iload_n 3, 1) := by decide +kernel
theorem d_R_isPlayed_76 : decode prog_11_method_110_code 76 = .ok (.iload_n 2, 1) := by decide +kernel
theorem d_R_isPlayed_77 : decode prog_11_method_110_code 77 = .ok (.invokevirtual 431, 3) := by decide +kernel
theorem d_R_isPlayed_80 : decode prog_11_method_110_code 80 = .ok (.ireturn, 1) := by decide +kernel
theorem d_R_isPlayed_81 : decode prog_11_method_110_code 81 = .ok (.aload_n 0, 1) := by decide +kernel
theorem d_R_isPlayed_82 : decode prog_11_method_110_code 82 = .ok (.iload_n 3, 1) := by decide +kernel
theorem d_R_isPlayed_83 : decode prog_11_method_110_code 83 = .ok (.iload_n 2, 1) := by decide +kernel
theorem d_R_isPlayed_84 : decode prog_11_method_110_code 84 = .ok (.invokevirtual 434, 3) := by decide +kernel
theorem d_R_isPlayed_87 : decode prog_11_method_110_code 87 = .ok (.ireturn, 1) := by decide +kernel
theorem d_R_isPlayed_88 : decode prog_11_method_110_code 88 = .ok (.aload_n 0, 1) := by decide +kernel
theorem d_R_isPlayed_89 : decode prog_11_method_110_code 89 = .ok (.iload_n 2, 1) := by decide +kernel
theorem d_R_isPlayed_90 : decode prog_11_method_110_code 90 = .ok (.invokevirtual 437, 3) := by decide +kernel
theorem d_R_isPlayed_93 : decode prog_11_method_110_code 93 = .ok (.ifCond .lt 7, 3) := by decide +kernel
theorem d_R_isPlayed_96 : decode prog_11_method_110_code 96 = .ok (.iconst 1, 1) := by decide +kernel
theorem d_R_isPlayed_97 : decode prog_11_method_110_code 97 = .ok (.goto 4, 3) := by decide +kernel
theorem d_R_isPlayed_100 : decode prog_11_method_110_code 100 = .ok (.iconst 0, 1) := by decide +kernel
theorem d_R_isPlayed_101 : decode prog_11_method_110_code 101 = .ok (.ireturn, 1) := by decide +kernel
theorem d_R_isPlayed_102 : decode prog_11_method_110_code 102 = .ok (.aload_n 0, 1) := by decide +kernel
theorem d_R_isPlayed_103 : decode prog_11_method_110_code 103 = .ok (.iload_n 2, 1) := by decide +kernel
theorem d_R_isPlayed_104 : decode prog_11_method_110_code 104 = .ok (.invokevirtual 425, 3) := by decide +kernel
theorem d_R_isPlayed_107 : decode prog_11_method_110_code 107 = .ok (.ireturn, 1) := by decide +kernel
theorem d_R_isPlayed_108 : decode prog_11_method_110_code 108 = .ok (.iconst 1, 1) := by decide +kernel
theorem d_R_isPlayed_109 : decode prog_11_method_110_code 109 = .ok (.ireturn, 1) := by decide +kernel
theorem d_R_ages_0 : decode prog_11_method_113_code 0 = .ok (.iload_n 1, 1) := by decide +kernel
theorem d_R_ages_1 : decode prog_11_method_113_code 1 = .ok (.iconst 0, 1) := by decide +kernel
theorem d_R_ages_2 : decode prog_11_method_113_code 2 = .ok (.sipush 9999, 3) := by decide +kernel
theorem d_R_ages_5 : decode prog_11_method_113_code 5 = .ok (.invokestatic 89, 3) := by decide +kernel
theorem d_R_ages_8 : decode prog_11_method_113_code 8 = .ok (.ifCond .eq 13, 3) := by decide +kernel
theorem d_R_ages_11 : decode prog_11_method_113_code 11 = .ok (.iload_n 2, 1) := by decide +kernel
theorem d_R_ages_12 : decode prog_11_method_113_code 12 = .ok (.iconst 1, 1) := by decide +kernel
theorem d_R_ages_13 : decode prog_11_method_113_code 13 = .ok (.bipush 40, 2) := by decide +kernel
theorem d_R_ages_15 : decode prog_11_method_113_code 15 = .ok (.invokestatic 89, 3) := by decide +kernel
theorem d_R_ages_18 : decode prog_11_method_113_code 18 = .ok (.ifCond .ne 5, 3) := by decide +kernel
theorem d_R_ages_21 : decode prog_11_method_113_code 21 = .ok (.iconst (-1), 1) := by decide +kernel
theorem d_R_ages_22 : decode prog_11_method_113_code 22 = .ok (.ireturn, 1) := by decide +kernel
theorem d_R_ages_23 : decode prog_11_method_113_code 23 = .ok (.aload_n 0, 1) := by decide +kernel
theorem d_R_ages_24 : decode prog_11_method_113_code 24 = .ok (.invokevirtual 407, 3) := by decide +kernel
theorem d_R_ages_27 : decode prog_11_method_113_code 27 = .ok (.aload_n 0, 1) := by decide +kernel
theorem d_R_ages_28 : decode prog_11_method_113_code 28 = .ok (.getfield 7, 3) := by decide +kernel
theorem d_R_ages_31 : decode prog_11_method_113_code 31 = .ok (.bipush 7, 2) := by decide +kernel
theorem d_R_ages_33 : decode prog_11_method_113_code 33 = .ok (.iload_n 1, 1) := by decide +kernel
theorem d_R_ages_34 : decode prog_11_method_113_code 34 = .ok (.iconst 2, 1) := by decide +kernel
theorem d_R_ages_35 : decode prog_11_method_113_code 35 = .ok (.imul, 1) := by decide +kernel
theorem d_R_ages_36 : decode prog_11_method_113_code 36 = .ok (.sipush 431, 3) := by decide +kernel
theorem d_R_ages_39 : decode prog_11_method_113_code 39 = .ok (.iadd, 1) := by decide +kernel
theorem d_R_ages_40 : decode prog_11_method_113_code 40 = .ok (.iastore, 1) := by decide +kernel
theorem d_R_ages_41 : decode prog_11_method_113_code 41 = .ok (.iconst 0, 1) := by decide +kernel
theorem d_R_ages_42 : decode prog_11_method_113_code 42 = .ok (.istore_n 3, 1) := by decide +kernel
theorem d_R_ages_43 : decode prog_11_method_113_code 43 = .ok (.iload_n 3, 1) := by decide +kernel
theorem d_R_ages_44 : decode prog_11_method_113_code 44 = .ok (.iload_n 2, 1) := by decide +kernel
theorem d_R_ages_45 : decode prog_11_method_113_code 45 = .ok (.if_icmp .ge 28, 3) := by decide +kernel
theorem d_R_ages_48 : decode prog_11_method_113_code 48 = .ok (.aload_n 0, 1) := by decide +kernel
theorem d_R_ages_49 : decode prog_11_method_113_code 49 = .ok (.getfield 7, 3) := by decide +kernel
theorem d_R_ages_52 : decode prog_11_method_113_code 52 = .ok (.bipush 7, 2) := by decide +kernel
theorem d_R_ages_54 : decode prog_11_method_113_code 54 = .ok (.iaload, 1) := by decide +kernel
theorem d_R_ages_55 : decode prog_11_method_113_code 55 = .ok (.istore 4, 2) := by decide +kernel
theorem d_R_ages_57 : decode prog_11_method_113_code 57 = .ok (.aload_n 0, 1) := by decide +kernel
theorem d_R_ages_58 : decode prog_11_method_113_code 58 = .ok (.invokevirtual 370, 3) := by decide +kernel
theorem d_R_ages_61 : decode prog_11_method_113_code 61 = .ok (.aload_n 0, 1) := by decide +kernel
theorem d_R_ages_62 : decode prog_11_method_113_code 62 = .ok (.iload 4, 2) := by decide +kernel
theorem d_R_ages_64 : decode prog_11_method_113_code 64 = .ok (.invokevirtual 443, 3) := by decide +kernel
theorem d_R_ages_67 : decode prog_11_method_113_code 67 = .ok (.iinc 3 1, 3) := by decide +kernel
theorem d_R_ages_70 : decode prog_11_method_113_code 70 = .ok (.goto (-27), 3) := by decide +kernel
theorem d_R_ages_73 : decode prog_11_method_113_code 73 = .ok (.aload_n 0, 1) := by decide +kernel
theorem d_R_ages_74 : decode prog_11_method_113_code 74 = .ok (.getfield 7, 3) := by decide +kernel
theorem d_R_ages_77 : decode prog_11_method_113_code 77 = .ok (.bipush 6, 2) := by decide +kernel
theorem d_R_ages_79 : decode prog_11_method_113_code 79 = .ok (.iaload, 1) := by decide +kernel
theorem d_R_ages_80 : decode prog_11_method_113_code 80 = .ok (.ireturn, 1) := by decide +kernel
theorem d_R_happens_0 : decode prog_11_method_112_code 0 = .ok (.iload_n 1, 1) := by decide +kernel
theorem d_R_happens_1 : decode prog_11_method_112_code 1 = .ok (.bipush 6, 2) := by decide +kernel
theorem d_R_happens_3 : decode prog_11_method_112_code 3 = .ok (.idiv, 1) := by decide +kernel
theorem d_R_happens_4 : decode prog_11_method_112_code 4 = .ok (.bipush 8, 2) := by decide +kernel
theorem d_R_happens_6 : decode prog_11_method_112_code 6 = .ok (.irem, 1) := by decide +kernel
theorem d_R_happens_7 : decode prog_11_method_112_code 7 = .ok (.istore_n 2, 1) := by decide +kernel
theorem d_R_happens_8 : decode prog_11_method_112_code 8 = .ok (.iload_n 1, 1) := by decide +kernel
theorem d_R_happens_9 : decode prog_11_method_112_code 9 = .ok (.bipush 20, 2) := by decide +kernel
theorem d_R_happens_11 : decode prog_11_method_112_code 11 = .ok (.irem, 1) := by decide +kernel
theorem d_R_happens_12 : decode prog_11_method_112_code 12 = .ok (.istore_n 3, 1) := by decide +kernel
theorem d_R_happens_13 : decode prog_11_method_112_code 13 = .ok (.iload_n 1, 1) := by decide +kernel
theorem d_R_happens_14 : decode prog_11_method_112_code 14 = .ok (.bipush 6, 2) := by decide +kernel
theorem d_R_happens_16 : decode prog_11_method_112_code 16 = .ok (.irem, 1) := by decide +kernel
theorem d_R_happens_17 : decode prog_11_method_112_code 17 = .ok (.tableswitch 99 0 3 #[31, 31, 49, 68], 31) := by decide +kernel
theorem d_R_happens_48 : decode prog_11_method_112_code 48 = .ok (.aload_n 0, 1) := by decide +kernel
theorem d_R_happens_49 : decode prog_11_method_112_code 49 = .ok (.iload_n 2, 1) := by decide +kernel
theorem d_R_happens_50 : decode prog_11_method_112_code 50 = .ok (.iload_n 3, 1) := by decide +kernel
theorem d_R_happens_51 : decode prog_11_method_112_code 51 = .ok (.invokevirtual 404, 3) := by decide +kernel
theorem d_R_happens_54 : decode prog_11_method_112_code 54 = .ok (.ifCond .eq 79, 3) := by decide +kernel
theorem d_R_happens_57 : decode prog_11_method_112_code 57 = .ok (.aload_n 0, 1) := by decide +kernel
theorem d_R_happens_58 : decode prog_11_method_112_code 58 = .ok (.iload_n 2, 1) := by decide +kernel
theorem d_R_happens_59 : decode prog_11_method_112_code 59 = .ok (.iload_n 3, 1) := by decide +kernel
theorem d_R_happens_60 : decode prog_11_method_112_code 60 = .ok (.invokevirtual 410, 3) := by decide +kernel
theorem d_R_happens_63 : decode prog_11_method_112_code 63 = .ok (.goto 70, 3) := by decide +kernel
theorem d_R_happens_66 : decode prog_11_method_112_code 66 = .ok (.aload_n 0, 1) := by decide +kernel
theorem d_R_happens_67 : decode prog_11_method_112_code 67 = .ok (.iload_n 2, 1) := by decide +kernel
theorem d_R_happens_68 : decode prog_11_method_112_code 68 = .ok (.iload_n 3, 1) := by decide +kernel
theorem d_R_happens_69 : decode prog_11_method_112_code 69 = .ok (.invokevirtual 413, 3) := by decide +kernel
theorem d_R_happens_72 : decode prog_11_method_112_code 72 = .ok (.ifCond .eq 61, 3) := by decide +kernel
theorem d_R_happens_75 : decode prog_11_method_112_code 75 = .ok (.aload_n 0, 1) := by decide +kernel
theorem d_R_happens_76 : decode prog_11_method_112_code 76 = .ok (.iload_n 2, 1) := by decide +kernel
theorem d_R_happens_77 : decode prog_11_method_112_code 77 = .ok (.iload_n 3, 1) := by decide +kernel
theorem d_R_happens_78 : decode prog_11_method_112_code 78 = .ok (.iconst 1, 1) := by decide +kernel
theorem d_R_happens_79 : decode prog_11_method_112_code 79 = .ok (.invokevirtual 398, 3) := by decide +kernel
theorem d_R_happens_82 : decode prog_11_method_112_code 82 = .ok (.goto 51, 3) := by decide +kernel
theorem d_R_happens_85 : decode prog_11_method_112_code 85 = .ok (.iload_n 1, 1) := by decide +kernel
theorem d_R_happens_86 : decode prog_11_method_112_code 86 = .ok (.iconst 4, 1) := by decide +kernel
theorem d_R_happens_87 : decode prog_11_method_112_code 87 = .ok (.irem, 1) := by decide +kernel
theorem d_R_happens_88 : decode prog_11_method_112_code 88 = .ok (.iconst 1, 1) := by decide +kernel
theorem d_R_happens_89 : decode prog_11_method_112_code 89 = .ok (.if_icmp .ne 44, 3) := by decide +kernel
theorem d_R_happens_92 : decode prog_11_method_112_code 92 = .ok (.aload_n 0, 1) := by decide +kernel
theorem d_R_happens_93 : decode prog_11_method_112_code 93 = .ok (.iload_n 2, 1) := by decide +kernel
theorem d_R_happens_94 : decode prog_11_method_112_code 94 = .ok (.invokevirtual 379, 3) := by decide +kernel
theorem d_R_happens_97 : decode prog_11_method_112_code 97 = .ok (.ifCond .eq 36, 3) := by decide +kernel
theorem d_R_happens_100 : decode prog_11_method_112_code 100 = .ok (.aload_n 0, 1) := by decide +kernel
theorem d_R_happens_101 : decode prog_11_method_112_code 101 = .ok (.iload_n 2, 1) := by decide +kernel
theorem d_R_happens_102 : decode prog_11_method_112_code 102 = .ok (.invokevirtual 416, 3) := by decide +kernel
theorem d_R_happens_105 : decode prog_11_method_112_code 105 = .ok (.ifCond .le 28, 3) := by decide +kernel
theorem d_R_happens_108 : decode prog_11_method_112_code 108 = .ok (.aload_n 0, 1) := by decide +kernel
theorem d_R_happens_109 : decode prog_11_method_112_code 109 = .ok (.iload_n 2, 1) := by decide +kernel
theorem d_R_happens_110 : decode prog_11_method_112_code 110 = .ok (.invokevirtual 419, 3) := by decide +kernel
theorem d_R_happens_113 : decode prog_11_method_112_code 113 = .ok (.goto 20, 3) := by decide +kernel
theorem d_R_happens_116 : decode prog_11_method_112_code 116 = .ok (.aload_n 0, 1) := by decide +kernel
theorem d_R_happens_117 : decode prog_11_method_112_code 117 = .ok (.getfield 7, 3) := by decide +kernel
theorem d_R_happens_120 : decode prog_11_method_112_code 120 = .ok (.bipush 6, 2) := by decide +kernel
theorem d_R_happens_122 : decode prog_11_method_112_code 122 = .ok (.iaload, 1) := by decide +kernel
theorem d_R_happens_123 : decode prog_11_method_112_code 123 = .ok (.sipush 9999, 3) := by decide +kernel
theorem d_R_happens_126 : decode prog_11_method_112_code 126 = .ok (.if_icmp .ge 7, 3) := by decide +kernel
theorem d_R_happens_129 : decode prog_11_method_112_code 129 = .ok (.aload_n 0, 1) := by decide +kernel
theorem d_R_happens_130 : decode prog_11_method_112_code 130 = .ok (.invokevirtual 422, 3) := by decide +kernel
theorem d_R_happens_133 : decode prog_11_method_112_code 133 = .ok (.return_, 1) := by decide +kernel
theorem d_R_of_0 : decode prog_11_method_114_code 0 = .ok (.aload_n 0, 1) := by decide +kernel
theorem d_R_of_1 : decode prog_11_method_114_code 1 = .ok (.iload_n 1, 1) := by decide +kernel
theorem d_R_of_2 : decode prog_11_method_114_code 2 = .ok (.invokevirtual 379, 3) := by decide +kernel
theorem d_R_of_5 : decode prog_11_method_114_code 5 = .ok (.ifCond .ne 5, 3) := by decide +kernel
theorem d_R_of_8 : decode prog_11_method_114_code 8 = .ok (.iconst (-1), 1) := by decide +kernel
theorem d_R_of_9 : decode prog_11_method_114_code 9 = .ok (.ireturn, 1) := by decide +kernel
theorem d_R_of_10 : decode prog_11_method_114_code 10 = .ok (.aload_n 0, 1) := by decide +kernel
theorem d_R_of_11 : decode prog_11_method_114_code 11 = .ok (.getfield 7, 3) := by decide +kernel
theorem d_R_of_14 : decode prog_11_method_114_code 14 = .ok (.bipush 10, 2) := by decide +kernel
theorem d_R_of_16 : decode prog_11_method_114_code 16 = .ok (.iload_n 1, 1) := by decide +kernel
theorem d_R_of_17 : decode prog_11_method_114_code 17 = .ok (.iadd, 1) := by decide +kernel
theorem d_R_of_18 : decode prog_11_method_114_code 18 = .ok (.iaload, 1) := by decide +kernel
theorem d_R_of_19 : decode prog_11_method_114_code 19 = .ok (.istore_n 3, 1) := by decide +kernel
theorem d_R_of_20 : decode prog_11_method_114_code 20 = .ok (.iload_n 2, 1) := by decide +kernel
theorem d_R_of_21 : decode prog_11_method_114_code 21 = .ok (.tableswitch 96 0 7 #[47, 49, 59, 64, 73, 79, 85, 90], 47) := by decide +kernel
theorem d_R_of_68 : decode prog_11_method_114_code 68 = .ok (.iload_n 3, 1) := by decide +kernel
theorem d_R_of_69 : decode prog_11_method_114_code 69 = .ok (.ireturn, 1) := by decide +kernel
theorem d_R_of_70 : decode prog_11_method_114_code 70 = .ok (.aload_n 0, 1) := by decide +kernel
theorem d_R_of_71 : decode prog_11_method_114_code 71 = .ok (.getfield 7, 3) := by decide +kernel
theorem d_R_of_74 : decode prog_11_method_114_code 74 = .ok (.bipush 18, 2) := by decide +kernel
theorem d_R_of_76 : decode prog_11_method_114_code 76 = .ok (.iload_n 1, 1) := by decide +kernel
theorem d_R_of_77 : decode prog_11_method_114_code 77 = .ok (.iadd, 1) := by decide +kernel
theorem d_R_of_78 : decode prog_11_method_114_code 78 = .ok (.iaload, 1) := by decide +kernel
theorem d_R_of_79 : decode prog_11_method_114_code 79 = .ok (.ireturn, 1) := by decide +kernel
theorem d_R_of_80 : decode prog_11_method_114_code 80 = .ok (.iload_n 3, 1) := by decide +kernel
theorem d_R_of_81 : decode prog_11_method_114_code 81 = .ok (.invokestatic 121, 3) := by decide +kernel
theorem d_R_of_84 : decode prog_11_method_114_code 84 = .ok (.ireturn, 1) := by decide +kernel
theorem d_R_of_85 : decode prog_11_method_114_code 85 = .ok (.aload_n 0, 1) := by decide +kernel
theorem d_R_of_86 : decode prog_11_method_114_code 86 = .ok (.iload_n 3, 1) := by decide +kernel
theorem d_R_of_87 : decode prog_11_method_114_code 87 = .ok (.invokevirtual 127, 3) := by decide +kernel
theorem d_R_of_90 : decode prog_11_method_114_code 90 = .ok (.invokestatic 121, 3) := by decide +kernel
theorem d_R_of_93 : decode prog_11_method_114_code 93 = .ok (.ireturn, 1) := by decide +kernel
theorem d_R_of_94 : decode prog_11_method_114_code 94 = .ok (.aload_n 0, 1) := by decide +kernel
theorem d_R_of_95 : decode prog_11_method_114_code 95 = .ok (.iload_n 3, 1) := by decide +kernel
theorem d_R_of_96 : decode prog_11_method_114_code 96 = .ok (.invokevirtual 124, 3) := by decide +kernel
theorem d_R_of_99 : decode prog_11_method_114_code 99 = .ok (.ireturn, 1) := by decide +kernel
theorem d_R_of_100 : decode prog_11_method_114_code 100 = .ok (.aload_n 0, 1) := by decide +kernel
theorem d_R_of_101 : decode prog_11_method_114_code 101 = .ok (.iload_n 3, 1) := by decide +kernel
theorem d_R_of_102 : decode prog_11_method_114_code 102 = .ok (.invokevirtual 446, 3) := by decide +kernel
theorem d_R_of_105 : decode prog_11_method_114_code 105 = .ok (.ireturn, 1) := by decide +kernel
theorem d_R_of_106 : decode prog_11_method_114_code 106 = .ok (.iload_n 3, 1) := by decide +kernel
theorem d_R_of_107 : decode prog_11_method_114_code 107 = .ok (.invokestatic 449, 3) := by decide +kernel
theorem d_R_of_110 : decode prog_11_method_114_code 110 = .ok (.ireturn, 1) := by decide +kernel
theorem d_R_of_111 : decode prog_11_method_114_code 111 = .ok (.aload_n 0, 1) := by decide +kernel
theorem d_R_of_112 : decode prog_11_method_114_code 112 = .ok (.iload_n 1, 1) := by decide +kernel
theorem d_R_of_113 : decode prog_11_method_114_code 113 = .ok (.invokevirtual 388, 3) := by decide +kernel
theorem d_R_of_116 : decode prog_11_method_114_code 116 = .ok (.ireturn, 1) := by decide +kernel
theorem d_R_of_117 : decode prog_11_method_114_code 117 = .ok (.iconst (-1), 1) := by decide +kernel
theorem d_R_of_118 : decode prog_11_method_114_code 118 = .ok (.ireturn, 1) := by decide +kernel
theorem d_R_holesOf_0 : decode prog_11_method_25_code 0 = .ok (.iload_n 1, 1) := by decide +kernel
theorem d_R_holesOf_1 : decode prog_11_method_25_code 1 = .ok (.invokestatic 121, 3) := by decide +kernel
theorem d_R_holesOf_4 : decode prog_11_method_25_code 4 = .ok (.aload_n 0, 1) := by decide +kernel
theorem d_R_holesOf_5 : decode prog_11_method_25_code 5 = .ok (.iload_n 1, 1) := by decide +kernel
theorem d_R_holesOf_6 : decode prog_11_method_25_code 6 = .ok (.invokevirtual 124, 3) := by decide +kernel
theorem d_R_holesOf_9 : decode prog_11_method_25_code 9 = .ok (.iadd, 1) := by decide +kernel
theorem d_R_holesOf_10 : decode prog_11_method_25_code 10 = .ok (.aload_n 0, 1) := by decide +kernel
theorem d_R_holesOf_11 : decode prog_11_method_25_code 11 = .ok (.iload_n 1, 1) := by decide +kernel
theorem d_R_holesOf_12 : decode prog_11_method_25_code 12 = .ok (.invokevirtual 114, 3) := by decide +kernel
theorem d_R_holesOf_15 : decode prog_11_method_25_code 15 = .ok (.invokestatic 121, 3) := by decide +kernel
theorem d_R_holesOf_18 : decode prog_11_method_25_code 18 = .ok (.isub, 1) := by decide +kernel
theorem d_R_holesOf_19 : decode prog_11_method_25_code 19 = .ok (.ireturn, 1) := by decide +kernel
theorem d_R_crossingsOf_0 : decode prog_11_method_26_code 0 = .ok (.iload_n 0, 1) := by decide +kernel
theorem d_R_crossingsOf_1 : decode prog_11_method_26_code 1 = .ok (.bipush 12, 2) := by decide +kernel
theorem d_R_crossingsOf_3 : decode prog_11_method_26_code 3 = .ok (.ishr, 1) := by decide +kernel
theorem d_R_crossingsOf_4 : decode prog_11_method_26_code 4 = .ok (.iload_n 0, 1) := by decide +kernel
theorem d_R_crossingsOf_5 : decode prog_11_method_26_code 5 = .ok (.bipush 16, 2) := by decide +kernel
theorem d_R_crossingsOf_7 : decode prog_11_method_26_code 7 = .ok (.ishr, 1) := by decide +kernel
theorem d_R_crossingsOf_8 : decode prog_11_method_26_code 8 = .ok (.iand, 1) := by decide +kernel
theorem d_R_crossingsOf_9 : decode prog_11_method_26_code 9 = .ok (.bipush 15, 2) := by decide +kernel
theorem d_R_crossingsOf_11 : decode prog_11_method_26_code 11 = .ok (.iand, 1) := by decide +kernel
theorem d_R_crossingsOf_12 : decode prog_11_method_26_code 12 = .ok (.invokestatic 121, 3) := by decide +kernel
theorem d_R_crossingsOf_15 : decode prog_11_method_26_code 15 = .ok (.ireturn, 1) := by decide +kernel
theorem d_R_wears_0 : decode prog_11_method_115_code 0 = .ok (.aload_n 0, 1) := by decide +kernel
theorem d_R_wears_1 : decode prog_11_method_115_code 1 = .ok (.iload_n 1, 1) := by decide +kernel
theorem d_R_wears_2 : decode prog_11_method_115_code 2 = .ok (.invokevirtual 379, 3) := by decide +kernel
theorem d_R_wears_5 : decode prog_11_method_115_code 5 = .ok (.ifCond .eq 25, 3) := by decide +kernel
theorem d_R_wears_8 : decode prog_11_method_115_code 8 = .ok (.iload_n 2, 1) := by decide +kernel
theorem d_R_wears_9 : decode prog_11_method_115_code 9 = .ok (.invokestatic 382, 3) := by decide +kernel
theorem d_R_wears_12 : decode prog_11_method_115_code 12 = .ok (.ifCond .eq 18, 3) := by decide +kernel
theorem d_R_wears_15 : decode prog_11_method_115_code 15 = .ok (.aload_n 0, 1) := by decide +kernel
theorem d_R_wears_16 : decode prog_11_method_115_code 16 = .ok (.aload_n 0, 1) := by decide +kernel
theorem d_R_wears_17 : decode prog_11_method_115_code 17 = .ok (.getfield 7, 3) := by decide +kernel
theorem d_R_wears_20 : decode prog_11_method_115_code 20 = .ok (.iconst 2, 1) := by decide +kernel
theorem d_R_wears_21 : decode prog_11_method_115_code 21 = .ok (.iaload, 1) := by decide +kernel
theorem d_R_wears_22 : decode prog_11_method_115_code 22 = .ok (.iload_n 1, 1) := by decide +kernel
theorem d_R_wears_23 : decode prog_11_method_115_code 23 = .ok (.iload_n 2, 1) := by decide +kernel
theorem d_R_wears_24 : decode prog_11_method_115_code 24 = .ok (.invokevirtual 395, 3) := by decide +kernel
theorem d_R_wears_27 : decode prog_11_method_115_code 27 = .ok (.goto 4, 3) := by decide +kernel
theorem d_R_wears_30 : decode prog_11_method_115_code 30 = .ok (.iconst (-1), 1) := by decide +kernel
theorem d_R_wears_31 : decode prog_11_method_115_code 31 = .ok (.ireturn, 1) := by decide +kernel
theorem d_R_is_0 : decode prog_11_method_116_code 0 = .ok (.iload_n 1, 1) := by decide +kernel
theorem d_R_is_1 : decode prog_11_method_116_code 1 = .ok (.iconst 0, 1) := by decide +kernel
theorem d_R_is_2 : decode prog_11_method_116_code 2 = .ok (.iconst 2, 1) := by decide +kernel
theorem d_R_is_3 : decode prog_11_method_116_code 3 = .ok (.invokestatic 89, 3) := by decide +kernel
theorem d_R_is_6 : decode prog_11_method_116_code 6 = .ok (.ifCond .eq 13, 3) := by decide +kernel
theorem d_R_is_9 : decode prog_11_method_116_code 9 = .ok (.aload_n 0, 1) := by decide +kernel
theorem d_R_is_10 : decode prog_11_method_116_code 10 = .ok (.getfield 7, 3) := by decide +kernel
theorem d_R_is_13 : decode prog_11_method_116_code 13 = .ok (.bipush 6, 2) := by decide +kernel
theorem d_R_is_15 : decode prog_11_method_116_code 15 = .ok (.iload_n 1, 1) := by decide +kernel
theorem d_R_is_16 : decode prog_11_method_116_code 16 = .ok (.iadd, 1) := by decide +kernel
theorem d_R_is_17 : decode prog_11_method_116_code 17 = .ok (.iaload, 1) := by decide +kernel
theorem d_R_is_18 : decode prog_11_method_116_code 18 = .ok (.ireturn, 1) := by decide +kernel
theorem d_R_is_19 : decode prog_11_method_116_code 19 = .ok (.iconst 0, 1) := by decide +kernel
theorem d_R_is_20 : decode prog_11_method_116_code 20 = .ok (.istore_n 2, 1) := by decide +kernel
theorem d_R_is_21 : decode prog_11_method_116_code 21 = .ok (.iconst 0, 1) := by decide +kernel
theorem d_R_is_22 : decode prog_11_method_116_code 22 = .ok (.istore_n 3, 1) := by decide +kernel
theorem d_R_is_23 : decode prog_11_method_116_code 23 = .ok (.iload_n 3, 1) := by decide +kernel
theorem d_R_is_24 : decode prog_11_method_116_code 24 = .ok (.aload_n 0, 1) := by decide +kernel
theorem d_R_is_25 : decode prog_11_method_116_code 25 = .ok (.getfield 7, 3) := by decide +kernel
theorem d_R_is_28 : decode prog_11_method_116_code 28 = .ok (.iconst 0, 1) := by decide +kernel
theorem d_R_is_29 : decode prog_11_method_116_code 29 = .ok (.iaload, 1) := by decide +kernel
theorem d_R_is_30 : decode prog_11_method_116_code 30 = .ok (.if_icmp .ge 27, 3) := by decide +kernel
theorem d_R_is_33 : decode prog_11_method_116_code 33 = .ok (.iload_n 2, 1) := by decide +kernel
theorem d_R_is_34 : decode prog_11_method_116_code 34 = .ok (.aload_n 0, 1) := by decide +kernel
theorem d_R_is_35 : decode prog_11_method_116_code 35 = .ok (.iload_n 3, 1) := by decide +kernel
theorem d_R_is_36 : decode prog_11_method_116_code 36 = .ok (.invokevirtual 416, 3) := by decide +kernel
theorem d_R_is_39 : decode prog_11_method_116_code 39 = .ok (.ifCond .le 9, 3) := by decide +kernel
theorem d_R_is_42 : decode prog_11_method_116_code 42 = .ok (.iconst 1, 1) := by decide +kernel
theorem d_R_is_43 : decode prog_11_method_116_code 43 = .ok (.iload_n 3, 1) := by decide +kernel
theorem d_R_is_44 : decode prog_11_method_116_code 44 = .ok (.ishl, 1) := by decide +kernel
theorem d_R_is_45 : decode prog_11_method_116_code 45 = .ok (.goto 4, 3) := by decide +kernel
theorem d_R_is_48 : decode prog_11_method_116_code 48 = .ok (.iconst 0, 1) := by decide +kernel
theorem d_R_is_49 : decode prog_11_method_116_code 49 = .ok (.ior, 1) := by decide +kernel
theorem d_R_is_50 : decode prog_11_method_116_code 50 = .ok (.istore_n 2, 1) := by decide +kernel
theorem d_R_is_51 : decode prog_11_method_116_code 51 = .ok (.iinc 3 1, 3) := by decide +kernel
theorem d_R_is_54 : decode prog_11_method_116_code 54 = .ok (.goto (-31), 3) := by decide +kernel
theorem d_R_is_57 : decode prog_11_method_116_code 57 = .ok (.iload_n 1, 1) := by decide +kernel
theorem d_R_is_58 : decode prog_11_method_116_code 58 = .ok (.iconst 3, 1) := by decide +kernel
theorem d_R_is_59 : decode prog_11_method_116_code 59 = .ok (.if_icmp .ne 7, 3) := by decide +kernel
theorem d_R_is_62 : decode prog_11_method_116_code 62 = .ok (.iload_n 2, 1) := by decide +kernel
theorem d_R_is_63 : decode prog_11_method_116_code 63 = .ok (.goto 5, 3) := by decide +kernel
theorem d_R_is_66 : decode prog_11_method_116_code 66 = .ok (.bipush (-2), 2) := by decide +kernel
theorem d_R_is_68 : decode prog_11_method_116_code 68 = .ok (.ireturn, 1) := by decide +kernel
theorem d_R_book_0 : decode prog_11_method_118_code 0 = .ok (.iload_n 1, 1) := by decide +kernel
theorem d_R_book_1 : decode prog_11_method_118_code 1 = .ok (.iconst (-1), 1) := by decide +kernel
theorem d_R_book_2 : decode prog_11_method_118_code 2 = .ok (.if_icmp .ne 11, 3) := by decide +kernel
theorem d_R_book_5 : decode prog_11_method_118_code 5 = .ok (.aload_n 0, 1) := by decide +kernel
theorem d_R_book_6 : decode prog_11_method_118_code 6 = .ok (.getfield 7, 3) := by decide +kernel
theorem d_R_book_9 : decode prog_11_method_118_code 9 = .ok (.bipush 9, 2) := by decide +kernel
theorem d_R_book_11 : decode prog_11_method_118_code 11 = .ok (.iaload, 1) := by decide +kernel
theorem d_R_book_12 : decode prog_11_method_118_code 12 = .ok (.ireturn, 1) := by decide +kernel
theorem d_R_book_13 : decode prog_11_method_118_code 13 = .ok (.iload_n 1, 1) := by decide +kernel
theorem d_R_book_14 : decode prog_11_method_118_code 14 = .ok (.iconst 0, 1) := by decide +kernel
theorem d_R_book_15 : decode prog_11_method_118_code 15 = .ok (.aload_n 0, 1) := by decide +kernel
theorem d_R_book_16 : decode prog_11_method_118_code 16 = .ok (.getfield 7, 3) := by decide +kernel
theorem d_R_book_19 : decode prog_11_method_118_code 19 = .ok (.bipush 9, 2) := by decide +kernel
theorem d_R_book_21 : decode prog_11_method_118_code 21 = .ok (.iaload, 1) := by decide +kernel
theorem d_R_book_22 : decode prog_11_method_118_code 22 = .ok (.iconst 1, 1) := by decide +kernel
theorem d_R_book_23 : decode prog_11_method_118_code 23 = .ok (.isub, 1) := by decide +kernel
theorem d_R_book_24 : decode prog_11_method_118_code 24 = .ok (.invokestatic 89, 3) := by decide +kernel
theorem d_R_book_27 : decode prog_11_method_118_code 27 = .ok (.ifCond .eq 21, 3) := by decide +kernel
theorem d_R_book_30 : decode prog_11_method_118_code 30 = .ok (.iload_n 2, 1) := by decide +kernel
theorem d_R_book_31 : decode prog_11_method_118_code 31 = .ok (.iconst 0, 1) := by decide +kernel
theorem d_R_book_32 : decode prog_11_method_118_code 32 = .ok (.iconst 3, 1) := by decide +kernel
theorem d_R_book_33 : decode prog_11_method_118_code 33 = .ok (.invokestatic 89, 3) := by decide +kernel
theorem d_R_book_36 : decode prog_11_method_118_code 36 = .ok (.ifCond .eq 12, 3) := by decide +kernel
theorem d_R_book_39 : decode prog_11_method_118_code 39 = .ok (.aload_n 0, 1) := by decide +kernel
theorem d_R_book_40 : decode prog_11_method_118_code 40 = .ok (.iload_n 1, 1) := by decide +kernel
theorem d_R_book_41 : decode prog_11_method_118_code 41 = .ok (.iload_n 2, 1) := by decide +kernel
theorem d_R_book_42 : decode prog_11_method_118_code 42 = .ok (.invokevirtual 452, 3) := by decide +kernel
theorem d_R_book_45 : decode prog_11_method_118_code 45 = .ok (.goto 5, 3) := by decide +kernel
theorem d_R_book_48 : decode prog_11_method_118_code 48 = .ok (.bipush (-2), 2) := by decide +kernel
theorem d_R_book_50 : decode prog_11_method_118_code 50 = .ok (.ireturn, 1) := by decide +kernel
theorem d_R_lineOf_0 : decode prog_11_method_117_code 0 = .ok (.aload_n 0, 1) := by decide +kernel
theorem d_R_lineOf_1 : decode prog_11_method_117_code 1 = .ok (.getfield 7, 3) := by decide +kernel
theorem d_R_lineOf_4 : decode prog_11_method_117_code 4 = .ok (.sipush 1192, 3) := by decide +kernel
theorem d_R_lineOf_7 : decode prog_11_method_117_code 7 = .ok (.iload_n 1, 1) := by decide +kernel
theorem d_R_lineOf_8 : decode prog_11_method_117_code 8 = .ok (.iadd, 1) := by decide +kernel
theorem d_R_lineOf_9 : decode prog_11_method_117_code 9 = .ok (.iaload, 1) := by decide +kernel
theorem d_R_lineOf_10 : decode prog_11_method_117_code 10 = .ok (.istore_n 3, 1) := by decide +kernel
theorem d_R_lineOf_11 : decode prog_11_method_117_code 11 = .ok (.iload_n 2, 1) := by decide +kernel
theorem d_R_lineOf_12 : decode prog_11_method_117_code 12 = .ok (.ifCond .ne 11, 3) := by decide +kernel
theorem d_R_lineOf_15 : decode prog_11_method_117_code 15 = .ok (.iload_n 3, 1) := by decide +kernel
theorem d_R_lineOf_16 : decode prog_11_method_117_code 16 = .ok (.sipush 672, 3) := by decide +kernel
theorem d_R_lineOf_19 : decode prog_11_method_117_code 19 = .ok (.idiv, 1) := by decide +kernel
theorem d_R_lineOf_20 : decode prog_11_method_117_code 20 = .ok (.goto 38, 3) := by decide +kernel
theorem d_R_lineOf_23 : decode prog_11_method_117_code 23 = .ok (.iload_n 2, 1) := by decide +kernel
theorem d_R_lineOf_24 : decode prog_11_method_117_code 24 = .ok (.iconst 1, 1) := by decide +kernel
theorem d_R_lineOf_25 : decode prog_11_method_117_code 25 = .ok (.if_icmp .ne 13, 3) := by decide +kernel
theorem d_R_lineOf_28 : decode prog_11_method_117_code 28 = .ok (.iload_n 3, 1) := by decide +kernel
theorem d_R_lineOf_29 : decode prog_11_method_117_code 29 = .ok (.bipush 84, 2) := by decide +kernel
theorem d_R_lineOf_31 : decode prog_11_method_117_code 31 = .ok (.idiv, 1) := by decide +kernel
theorem d_R_lineOf_32 : decode prog_11_method_117_code 32 = .ok (.bipush 8, 2) := by decide +kernel
theorem d_R_lineOf_34 : decode prog_11_method_117_code 34 = .ok (.irem, 1) := by decide +kernel
theorem d_R_lineOf_35 : decode prog_11_method_117_code 35 = .ok (.goto 23, 3) := by decide +kernel
theorem d_R_lineOf_38 : decode prog_11_method_117_code 38 = .ok (.iload_n 2, 1) := by decide +kernel
theorem d_R_lineOf_39 : decode prog_11_method_117_code 39 = .ok (.iconst 2, 1) := by decide +kernel
theorem d_R_lineOf_40 : decode prog_11_method_117_code 40 = .ok (.if_icmp .ne 12, 3) := by decide +kernel
theorem d_R_lineOf_43 : decode prog_11_method_117_code 43 = .ok (.iload_n 3, 1) := by decide +kernel
theorem d_R_lineOf_44 : decode prog_11_method_117_code 44 = .ok (.bipush 21, 2) := by decide +kernel
theorem d_R_lineOf_46 : decode prog_11_method_117_code 46 = .ok (.idiv, 1) := by decide +kernel
theorem d_R_lineOf_47 : decode prog_11_method_117_code 47 = .ok (.iconst 4, 1) := by decide +kernel
theorem d_R_lineOf_48 : decode prog_11_method_117_code 48 = .ok (.irem, 1) := by decide +kernel
theorem d_R_lineOf_49 : decode prog_11_method_117_code 49 = .ok (.goto 9, 3) := by decide +kernel
theorem d_R_lineOf_52 : decode prog_11_method_117_code 52 = .ok (.iload_n 3, 1) := by decide +kernel
theorem d_R_lineOf_53 : decode prog_11_method_117_code 53 = .ok (.bipush 21, 2) := by decide +kernel
theorem d_R_lineOf_55 : decode prog_11_method_117_code 55 = .ok (.irem, 1) := by decide +kernel
theorem d_R_lineOf_56 : decode prog_11_method_117_code 56 = .ok (.iconst 1, 1) := by decide +kernel
theorem d_R_lineOf_57 : decode prog_11_method_117_code 57 = .ok (.isub, 1) := by decide +kernel
theorem d_R_lineOf_58 : decode prog_11_method_117_code 58 = .ok (.ireturn, 1) := by decide +kernel
theorem d_R_ledger_0 : decode prog_11_method_119_code 0 = .ok (.iload_n 1, 1) := by decide +kernel
theorem d_R_ledger_1 : decode prog_11_method_119_code 1 = .ok (.iconst 0, 1) := by decide +kernel
theorem d_R_ledger_2 : decode prog_11_method_119_code 2 = .ok (.iconst 3, 1) := by decide +kernel
theorem d_R_ledger_3 : decode prog_11_method_119_code 3 = .ok (.invokestatic 89, 3) := by decide +kernel
theorem d_R_ledger_6 : decode prog_11_method_119_code 6 = .ok (.ifCond .ne 6, 3) := by decide +kernel
theorem d_R_ledger_9 : decode prog_11_method_119_code 9 = .ok (.bipush (-2), 2) := by decide +kernel
theorem d_R_ledger_11 : decode prog_11_method_119_code 11 = .ok (.ireturn, 1) := by decide +kernel
theorem d_R_ledger_12 : decode prog_11_method_119_code 12 = .ok (.iconst 0, 1) := by decide +kernel
theorem d_R_ledger_13 : decode prog_11_method_119_code 13 = .ok (.istore_n 2, 1) := by decide +kernel
theorem d_R_ledger_14 : decode prog_11_method_119_code 14 = .ok (.iconst 0, 1) := by decide +kernel
theorem d_R_ledger_15 : decode prog_11_method_119_code 15 = .ok (.istore_n 3, 1) := by decide +kernel
theorem d_R_ledger_16 : decode prog_11_method_119_code 16 = .ok (.iload_n 3, 1) := by decide +kernel
theorem d_R_ledger_17 : decode prog_11_method_119_code 17 = .ok (.aload_n 0, 1) := by decide +kernel
theorem d_R_ledger_18 : decode prog_11_method_119_code 18 = .ok (.getfield 7, 3) := by decide +kernel
theorem d_R_ledger_21 : decode prog_11_method_119_code 21 = .ok (.bipush 9, 2) := by decide +kernel
theorem d_R_ledger_23 : decode prog_11_method_119_code 23 = .ok (.iaload, 1) := by decide +kernel
theorem d_R_ledger_24 : decode prog_11_method_119_code 24 = .ok (.if_icmp .ge 27, 3) := by decide +kernel
theorem d_R_ledger_27 : decode prog_11_method_119_code 27 = .ok (.iload_n 2, 1) := by decide +kernel
theorem d_R_ledger_28 : decode prog_11_method_119_code 28 = .ok (.aload_n 0, 1) := by decide +kernel
theorem d_R_ledger_29 : decode prog_11_method_119_code 29 = .ok (.iload_n 3, 1) := by decide +kernel
theorem d_R_ledger_30 : decode prog_11_method_119_code 30 = .ok (.iconst 2, 1) := by decide +kernel
theorem d_R_ledger_31 : decode prog_11_method_119_code 31 = .ok (.invokevirtual 452, 3) := by decide +kernel
theorem d_R_ledger_34 : decode prog_11_method_119_code 34 = .ok (.iload_n 1, 1) := by decide +kernel
theorem d_R_ledger_35 : decode prog_11_method_119_code 35 = .ok (.if_icmp .ne 7, 3) := by decide +kernel
theorem d_R_ledger_38 : decode prog_11_method_119_code 38 = .ok (.iconst 1, 1) := by decide +kernel
theorem d_R_ledger_39 : decode prog_11_method_119_code 39 = .ok (.goto 4, 3) := by decide +kernel
theorem d_R_ledger_42 : decode prog_11_method_119_code 42 = .ok (.iconst 0, 1) := by decide +kernel
theorem d_R_ledger_43 : decode prog_11_method_119_code 43 = .ok (.iadd, 1) := by decide +kernel
theorem d_R_ledger_44 : decode prog_11_method_119_code 44 = .ok (.istore_n 2, 1) := by decide +kernel
theorem d_R_ledger_45 : decode prog_11_method_119_code 45 = .ok (.iinc 3 1, 3) := by decide +kernel
theorem d_R_ledger_48 : decode prog_11_method_119_code 48 = .ok (.goto (-32), 3) := by decide +kernel
theorem d_R_ledger_51 : decode prog_11_method_119_code 51 = .ok (.iload_n 2, 1) := by decide +kernel
theorem d_R_ledger_52 : decode prog_11_method_119_code 52 = .ok (.ireturn, 1) := by decide +kernel
theorem d_R_richest_0 : decode prog_11_method_120_code 0 = .ok (.iconst (-1), 1) := by decide +kernel
theorem d_R_richest_1 : decode prog_11_method_120_code 1 = .ok (.istore_n 1, 1) := by decide +kernel
theorem d_R_richest_2 : decode prog_11_method_120_code 2 = .ok (.iconst 0, 1) := by decide +kernel
theorem d_R_richest_3 : decode prog_11_method_120_code 3 = .ok (.istore_n 2, 1) := by decide +kernel
theorem d_R_richest_4 : decode prog_11_method_120_code 4 = .ok (.iload_n 2, 1) := by decide +kernel
theorem d_R_richest_5 : decode prog_11_method_120_code 5 = .ok (.aload_n 0, 1) := by decide +kernel
theorem d_R_richest_6 : decode prog_11_method_120_code 6 = .ok (.getfield 7, 3) := by decide +kernel
theorem d_R_richest_9 : decode prog_11_method_120_code 9 = .ok (.iconst 0, 1) := by decide +kernel
theorem d_R_richest_10 : decode prog_11_method_120_code 10 = .ok (.iaload, 1) := by decide +kernel
theorem d_R_richest_11 : decode prog_11_method_120_code 11 = .ok (.if_icmp .ge 33, 3) := by decide +kernel
theorem d_R_richest_14 : decode prog_11_method_120_code 14 = .ok (.aload_n 0, 1) := by decide +kernel
theorem d_R_richest_15 : decode prog_11_method_120_code 15 = .ok (.iload_n 2, 1) := by decide +kernel
theorem d_R_richest_16 : decode prog_11_method_120_code 16 = .ok (.invokevirtual 388, 3) := by decide +kernel
theorem d_R_richest_19 : decode prog_11_method_120_code 19 = .ok (.iload_n 1, 1) := by decide +kernel
theorem d_R_richest_20 : decode prog_11_method_120_code 20 = .ok (.iconst (-1), 1) := by decide +kernel
theorem d_R_richest_21 : decode prog_11_method_120_code 21 = .ok (.if_icmp .ne 7, 3) := by decide +kernel
theorem d_R_richest_24 : decode prog_11_method_120_code 24 = .ok (.iconst 0, 1) := by decide +kernel
theorem d_R_richest_25 : decode prog_11_method_120_code 25 = .ok (.goto 8, 3) := by decide +kernel
theorem d_R_richest_28 : decode prog_11_method_120_code 28 = .ok (.aload_n 0, 1) := by decide +kernel
theorem d_R_richest_29 : decode prog_11_method_120_code 29 = .ok (.iload_n 1, 1) := by decide +kernel
theorem d_R_richest_30 : decode prog_11_method_120_code 30 = .ok (.invokevirtual 388, 3) := by decide +kernel
theorem d_R_richest_33 : decode prog_11_method_120_code 33 = .ok (.if_icmp .le 5, 3) := by decide +kernel
theorem d_R_richest_36 : decode prog_11_method_120_code 36 = .ok (.iload_n 2, 1) := by decide +kernel
theorem d_R_richest_37 : decode prog_11_method_120_code 37 = .ok (.istore_n 1, 1) := by decide +kernel
theorem d_R_richest_38 : decode prog_11_method_120_code 38 = .ok (.iinc 2 1, 3) := by decide +kernel
theorem d_R_richest_41 : decode prog_11_method_120_code 41 = .ok (.goto (-37), 3) := by decide +kernel
theorem d_R_richest_44 : decode prog_11_method_120_code 44 = .ok (.iload_n 1, 1) := by decide +kernel
theorem d_R_richest_45 : decode prog_11_method_120_code 45 = .ok (.ireturn, 1) := by decide +kernel
theorem d_R_worn_0 : decode prog_11_method_121_code 0 = .ok (.iconst (-1), 1) := by decide +kernel
theorem d_R_worn_1 : decode prog_11_method_121_code 1 = .ok (.istore_n 1, 1) := by decide +kernel
theorem d_R_worn_2 : decode prog_11_method_121_code 2 = .ok (.iconst 0, 1) := by decide +kernel
theorem d_R_worn_3 : decode prog_11_method_121_code 3 = .ok (.istore_n 2, 1) := by decide +kernel
theorem d_R_worn_4 : decode prog_11_method_121_code 4 = .ok (.iload_n 2, 1) := by decide +kernel
theorem d_R_worn_5 : decode prog_11_method_121_code 5 = .ok (.aload_n 0, 1) := by decide +kernel
theorem d_R_worn_6 : decode prog_11_method_121_code 6 = .ok (.getfield 7, 3) := by decide +kernel
theorem d_R_worn_9 : decode prog_11_method_121_code 9 = .ok (.iconst 0, 1) := by decide +kernel
theorem d_R_worn_10 : decode prog_11_method_121_code 10 = .ok (.iaload, 1) := by decide +kernel
theorem d_R_worn_11 : decode prog_11_method_121_code 11 = .ok (.if_icmp .ge 33, 3) := by decide +kernel
theorem d_R_worn_14 : decode prog_11_method_121_code 14 = .ok (.aload_n 0, 1) := by decide +kernel
theorem d_R_worn_15 : decode prog_11_method_121_code 15 = .ok (.iload_n 2, 1) := by decide +kernel
theorem d_R_worn_16 : decode prog_11_method_121_code 16 = .ok (.invokevirtual 416, 3) := by decide +kernel
theorem d_R_worn_19 : decode prog_11_method_121_code 19 = .ok (.iload_n 1, 1) := by decide +kernel
theorem d_R_worn_20 : decode prog_11_method_121_code 20 = .ok (.iconst (-1), 1) := by decide +kernel
theorem d_R_worn_21 : decode prog_11_method_121_code 21 = .ok (.if_icmp .ne 7, 3) := by decide +kernel
theorem d_R_worn_24 : decode prog_11_method_121_code 24 = .ok (.iconst 0, 1) := by decide +kernel
theorem d_R_worn_25 : decode prog_11_method_121_code 25 = .ok (.goto 8, 3) := by decide +kernel
theorem d_R_worn_28 : decode prog_11_method_121_code 28 = .ok (.aload_n 0, 1) := by decide +kernel
theorem d_R_worn_29 : decode prog_11_method_121_code 29 = .ok (.iload_n 1, 1) := by decide +kernel
theorem d_R_worn_30 : decode prog_11_method_121_code 30 = .ok (.invokevirtual 416, 3) := by decide +kernel
theorem d_R_worn_33 : decode prog_11_method_121_code 33 = .ok (.if_icmp .le 5, 3) := by decide +kernel
theorem d_R_worn_36 : decode prog_11_method_121_code 36 = .ok (.iload_n 2, 1) := by decide +kernel
theorem d_R_worn_37 : decode prog_11_method_121_code 37 = .ok (.istore_n 1, 1) := by decide +kernel
theorem d_R_worn_38 : decode prog_11_method_121_code 38 = .ok (.iinc 2 1, 3) := by decide +kernel
theorem d_R_worn_41 : decode prog_11_method_121_code 41 = .ok (.goto (-37), 3) := by decide +kernel
theorem d_R_worn_44 : decode prog_11_method_121_code 44 = .ok (.iload_n 1, 1) := by decide +kernel
theorem d_R_worn_45 : decode prog_11_method_121_code 45 = .ok (.ireturn, 1) := by decide +kernel
theorem d_R_foretold_0 : decode prog_11_method_122_code 0 = .ok (.iload_n 1, 1) := by decide +kernel
theorem d_R_foretold_1 : decode prog_11_method_122_code 1 = .ok (.iconst 1, 1) := by decide +kernel
theorem d_R_foretold_2 : decode prog_11_method_122_code 2 = .ok (.bipush 60, 2) := by decide +kernel
theorem d_R_foretold_4 : decode prog_11_method_122_code 4 = .ok (.invokestatic 89, 3) := by decide +kernel
theorem d_R_foretold_7 : decode prog_11_method_122_code 7 = .ok (.ifCond .eq 11, 3) := by decide +kernel
theorem d_R_foretold_10 : decode prog_11_method_122_code 10 = .ok (.aload_n 0, 1) := by decide +kernel
theorem d_R_foretold_11 : decode prog_11_method_122_code 11 = .ok (.iload_n 2, 1) := by decide +kernel
theorem d_R_foretold_12 : decode prog_11_method_122_code 12 = .ok (.invokevirtual 379, 3) := by decide +kernel
theorem d_R_foretold_15 : decode prog_11_method_122_code 15 = .ok (.ifCond .ne 5, 3) := by decide +kernel
theorem d_R_foretold_18 : decode prog_11_method_122_code 18 = .ok (.iconst (-1), 1) := by decide +kernel
theorem d_R_foretold_19 : decode prog_11_method_122_code 19 = .ok (.ireturn, 1) := by decide +kernel
theorem d_R_foretold_20 : decode prog_11_method_122_code 20 = .ok (.bipush 6, 2) := by decide +kernel
theorem d_R_foretold_22 : decode prog_11_method_122_code 22 = .ok (.istore_n 3, 1) := by decide +kernel
theorem d_R_foretold_23 : decode prog_11_method_122_code 23 = .ok (.iload_n 3, 1) := by decide +kernel
theorem d_R_foretold_24 : decode prog_11_method_122_code 24 = .ok (.bipush 18, 2) := by decide +kernel
theorem d_R_foretold_26 : decode prog_11_method_122_code 26 = .ok (.if_icmp .ge 21, 3) := by decide +kernel
theorem d_R_foretold_29 : decode prog_11_method_122_code 29 = .ok (.aload_n 0, 1) := by decide +kernel
theorem d_R_foretold_30 : decode prog_11_method_122_code 30 = .ok (.getfield 65, 3) := by decide +kernel
theorem d_R_foretold_33 : decode prog_11_method_122_code 33 = .ok (.iload_n 3, 1) := by decide +kernel
theorem d_R_foretold_34 : decode prog_11_method_122_code 34 = .ok (.aload_n 0, 1) := by decide +kernel
theorem d_R_foretold_35 : decode prog_11_method_122_code 35 = .ok (.getfield 7, 3) := by decide +kernel
theorem d_R_foretold_38 : decode prog_11_method_122_code 38 = .ok (.iload_n 3, 1) := by decide +kernel
theorem d_R_foretold_39 : decode prog_11_method_122_code 39 = .ok (.iaload, 1) := by decide +kernel
theorem d_R_foretold_40 : decode prog_11_method_122_code 40 = .ok (.iastore, 1) := by decide +kernel
theorem d_R_foretold_41 : decode prog_11_method_122_code 41 = .ok (.iinc 3 1, 3) := by decide +kernel
theorem d_R_foretold_44 : decode prog_11_method_122_code 44 = .ok (.goto (-21), 3) := by decide +kernel
theorem d_R_foretold_47 : decode prog_11_method_122_code 47 = .ok (.aload_n 0, 1) := by decide +kernel
theorem d_R_foretold_48 : decode prog_11_method_122_code 48 = .ok (.iconst 0, 1) := by decide +kernel
theorem d_R_foretold_49 : decode prog_11_method_122_code 49 = .ok (.putfield 61, 3) := by decide +kernel
theorem d_R_foretold_52 : decode prog_11_method_122_code 52 = .ok (.iconst 0, 1) := by decide +kernel
theorem d_R_foretold_53 : decode prog_11_method_122_code 53 = .ok (.istore_n 3, 1) := by decide +kernel
theorem d_R_foretold_54 : decode prog_11_method_122_code 54 = .ok (.iload_n 3, 1) := by decide +kernel
theorem d_R_foretold_55 : decode prog_11_method_122_code 55 = .ok (.iload_n 1, 1) := by decide +kernel
theorem d_R_foretold_56 : decode prog_11_method_122_code 56 = .ok (.if_icmp .ge 26, 3) := by decide +kernel
theorem d_R_foretold_59 : decode prog_11_method_122_code 59 = .ok (.aload_n 0, 1) := by decide +kernel
theorem d_R_foretold_60 : decode prog_11_method_122_code 60 = .ok (.getfield 7, 3) := by decide +kernel
theorem d_R_foretold_63 : decode prog_11_method_122_code 63 = .ok (.bipush 6, 2) := by decide +kernel
theorem d_R_foretold_65 : decode prog_11_method_122_code 65 = .ok (.iaload, 1) := by decide +kernel
theorem d_R_foretold_66 : decode prog_11_method_122_code 66 = .ok (.sipush 9999, 3) := by decide +kernel
theorem d_R_foretold_69 : decode prog_11_method_122_code 69 = .ok (.if_icmp .ge 7, 3) := by decide +kernel
theorem d_R_foretold_72 : decode prog_11_method_122_code 72 = .ok (.aload_n 0, 1) := by decide +kernel
theorem d_R_foretold_73 : decode prog_11_method_122_code 73 = .ok (.invokevirtual 422, 3) := by decide +kernel
theorem d_R_foretold_76 : decode prog_11_method_122_code 76 = .ok (.iinc 3 1, 3) := by decide +kernel
theorem d_R_foretold_79 : decode prog_11_method_122_code 79 = .ok (.goto (-25), 3) := by decide +kernel
theorem d_R_foretold_82 : decode prog_11_method_122_code 82 = .ok (.aload_n 0, 1) := by decide +kernel
theorem d_R_foretold_83 : decode prog_11_method_122_code 83 = .ok (.getfield 7, 3) := by decide +kernel
theorem d_R_foretold_86 : decode prog_11_method_122_code 86 = .ok (.bipush 10, 2) := by decide +kernel
theorem d_R_foretold_88 : decode prog_11_method_122_code 88 = .ok (.iload_n 2, 1) := by decide +kernel
theorem d_R_foretold_89 : decode prog_11_method_122_code 89 = .ok (.iadd, 1) := by decide +kernel
theorem d_R_foretold_90 : decode prog_11_method_122_code 90 = .ok (.iaload, 1) := by decide +kernel
theorem d_R_foretold_91 : decode prog_11_method_122_code 91 = .ok (.istore_n 3, 1) := by decide +kernel
theorem d_R_foretold_92 : decode prog_11_method_122_code 92 = .ok (.bipush 6, 2) := by decide +kernel
theorem d_R_foretold_94 : decode prog_11_method_122_code 94 = .ok (.istore 4, 2) := by decide +kernel
theorem d_R_foretold_96 : decode prog_11_method_122_code 96 = .ok (.iload 4, 2) := by decide +kernel
theorem d_R_foretold_98 : decode prog_11_method_122_code 98 = .ok (.bipush 18, 2) := by decide +kernel
theorem d_R_foretold_100 : decode prog_11_method_122_code 100 = .ok (.if_icmp .ge 23, 3) := by decide +kernel
theorem d_R_foretold_103 : decode prog_11_method_122_code 103 = .ok (.aload_n 0, 1) := by decide +kernel
theorem d_R_foretold_104 : decode prog_11_method_122_code 104 = .ok (.getfield 7, 3) := by decide +kernel
theorem d_R_foretold_107 : decode prog_11_method_122_code 107 = .ok (.iload 4, 2) := by decide +kernel
theorem d_R_foretold_109 : decode prog_11_method_122_code 109 = .ok (.aload_n 0, 1) := by decide +kernel
theorem d_R_foretold_110 : decode prog_11_method_122_code 110 = .ok (.getfield 65, 3) := by decide +kernel
theorem d_R_foretold_113 : decode prog_11_method_122_code 113 = .ok (.iload 4, 2) := by decide +kernel
theorem d_R_foretold_115 : decode prog_11_method_122_code 115 = .ok (.iaload, 1) := by decide +kernel
theorem d_R_foretold_116 : decode prog_11_method_122_code 116 = .ok (.iastore, 1) := by decide +kernel
theorem d_R_foretold_117 : decode prog_11_method_122_code 117 = .ok (.iinc 4 1, 3) := by decide +kernel
theorem d_R_foretold_120 : decode prog_11_method_122_code 120 = .ok (.goto (-24), 3) := by decide +kernel
theorem d_R_foretold_123 : decode prog_11_method_122_code 123 = .ok (.aload_n 0, 1) := by decide +kernel
theorem d_R_foretold_124 : decode prog_11_method_122_code 124 = .ok (.iconst 1, 1) := by decide +kernel
theorem d_R_foretold_125 : decode prog_11_method_122_code 125 = .ok (.putfield 61, 3) := by decide +kernel
theorem d_R_foretold_128 : decode prog_11_method_122_code 128 = .ok (.iload_n 3, 1) := by decide +kernel
theorem d_R_foretold_129 : decode prog_11_method_122_code 129 = .ok (.ireturn, 1) := by decide +kernel
theorem d_R_alike_0 : decode prog_11_method_125_code 0 = .ok (.aload_n 0, 1) := by decide +kernel
theorem d_R_alike_1 : decode prog_11_method_125_code 1 = .ok (.iload_n 1, 1) := by decide +kernel
theorem d_R_alike_2 : decode prog_11_method_125_code 2 = .ok (.invokevirtual 379, 3) := by decide +kernel
theorem d_R_alike_5 : decode prog_11_method_125_code 5 = .ok (.ifCond .eq 36, 3) := by decide +kernel
theorem d_R_alike_8 : decode prog_11_method_125_code 8 = .ok (.aload_n 0, 1) := by decide +kernel
theorem d_R_alike_9 : decode prog_11_method_125_code 9 = .ok (.iload_n 2, 1) := by decide +kernel
theorem d_R_alike_10 : decode prog_11_method_125_code 10 = .ok (.invokevirtual 379, 3) := by decide +kernel
theorem d_R_alike_13 : decode prog_11_method_125_code 13 = .ok (.ifCond .eq 28, 3) := by decide +kernel
theorem d_R_alike_16 : decode prog_11_method_125_code 16 = .ok (.aload_n 0, 1) := by decide +kernel
theorem d_R_alike_17 : decode prog_11_method_125_code 17 = .ok (.aload_n 0, 1) := by decide +kernel
theorem d_R_alike_18 : decode prog_11_method_125_code 18 = .ok (.getfield 7, 3) := by decide +kernel
theorem d_R_alike_21 : decode prog_11_method_125_code 21 = .ok (.bipush 10, 2) := by decide +kernel
theorem d_R_alike_23 : decode prog_11_method_125_code 23 = .ok (.iload_n 1, 1) := by decide +kernel
theorem d_R_alike_24 : decode prog_11_method_125_code 24 = .ok (.iadd, 1) := by decide +kernel
theorem d_R_alike_25 : decode prog_11_method_125_code 25 = .ok (.iaload, 1) := by decide +kernel
theorem d_R_alike_26 : decode prog_11_method_125_code 26 = .ok (.aload_n 0, 1) := by decide +kernel
theorem d_R_alike_27 : decode prog_11_method_125_code 27 = .ok (.getfield 7, 3) := by decide +kernel
theorem d_R_alike_30 : decode prog_11_method_125_code 30 = .ok (.bipush 10, 2) := by decide +kernel
theorem d_R_alike_32 : decode prog_11_method_125_code 32 = .ok (.iload_n 2, 1) := by decide +kernel
theorem d_R_alike_33 : decode prog_11_method_125_code 33 = .ok (.iadd, 1) := by decide +kernel
theorem d_R_alike_34 : decode prog_11_method_125_code 34 = .ok (.iaload, 1) := by decide +kernel
theorem d_R_alike_35 : decode prog_11_method_125_code 35 = .ok (.invokevirtual 458, 3) := by decide +kernel
theorem d_R_alike_38 : decode prog_11_method_125_code 38 = .ok (.goto 4, 3) := by decide +kernel
theorem d_R_alike_41 : decode prog_11_method_125_code 41 = .ok (.iconst (-1), 1) := by decide +kernel
theorem d_R_alike_42 : decode prog_11_method_125_code 42 = .ok (.ireturn, 1) := by decide +kernel
theorem d_R_apartBy_0 : decode prog_11_method_124_code 0 = .ok (.iload_n 1, 1) := by decide +kernel
theorem d_R_apartBy_1 : decode prog_11_method_124_code 1 = .ok (.aload_n 0, 1) := by decide +kernel
theorem d_R_apartBy_2 : decode prog_11_method_124_code 2 = .ok (.iload_n 2, 1) := by decide +kernel
theorem d_R_apartBy_3 : decode prog_11_method_124_code 3 = .ok (.aload_n 0, 1) := by decide +kernel
theorem d_R_apartBy_4 : decode prog_11_method_124_code 4 = .ok (.iload_n 1, 1) := by decide +kernel
theorem d_R_apartBy_5 : decode prog_11_method_124_code 5 = .ok (.iload_n 2, 1) := by decide +kernel
theorem d_R_apartBy_6 : decode prog_11_method_124_code 6 = .ok (.invokevirtual 455, 3) := by decide +kernel
theorem d_R_apartBy_9 : decode prog_11_method_124_code 9 = .ok (.invokevirtual 105, 3) := by decide +kernel
theorem d_R_apartBy_12 : decode prog_11_method_124_code 12 = .ok (.ixor, 1) := by decide +kernel
theorem d_R_apartBy_13 : decode prog_11_method_124_code 13 = .ok (.invokestatic 121, 3) := by decide +kernel
theorem d_R_apartBy_16 : decode prog_11_method_124_code 16 = .ok (.ireturn, 1) := by decide +kernel
theorem d_R_nearestWay_0 : decode prog_11_method_123_code 0 = .ok (.iconst 0, 1) := by decide +kernel
theorem d_R_nearestWay_1 : decode prog_11_method_123_code 1 = .ok (.istore_n 3, 1) := by decide +kernel
theorem d_R_nearestWay_2 : decode prog_11_method_123_code 2 = .ok (.iconst 1, 1) := by decide +kernel
theorem d_R_nearestWay_3 : decode prog_11_method_123_code 3 = .ok (.istore 4, 2) := by decide +kernel
theorem d_R_nearestWay_5 : decode prog_11_method_123_code 5 = .ok (.iload 4, 2) := by decide +kernel
theorem d_R_nearestWay_7 : decode prog_11_method_123_code 7 = .ok (.bipush 8, 2) := by decide +kernel
theorem d_R_nearestWay_9 : decode prog_11_method_123_code 9 = .ok (.if_icmp .ge 38, 3) := by decide +kernel
theorem d_R_nearestWay_12 : decode prog_11_method_123_code 12 = .ok (.iload_n 1, 1) := by decide +kernel
theorem d_R_nearestWay_13 : decode prog_11_method_123_code 13 = .ok (.aload_n 0, 1) := by decide +kernel
theorem d_R_nearestWay_14 : decode prog_11_method_123_code 14 = .ok (.iload_n 2, 1) := by decide +kernel
theorem d_R_nearestWay_15 : decode prog_11_method_123_code 15 = .ok (.iload 4, 2) := by decide +kernel
theorem d_R_nearestWay_17 : decode prog_11_method_123_code 17 = .ok (.invokevirtual 105, 3) := by decide +kernel
theorem d_R_nearestWay_20 : decode prog_11_method_123_code 20 = .ok (.ixor, 1) := by decide +kernel
theorem d_R_nearestWay_21 : decode prog_11_method_123_code 21 = .ok (.invokestatic 121, 3) := by decide +kernel
theorem d_R_nearestWay_24 : decode prog_11_method_123_code 24 = .ok (.iload_n 1, 1) := by decide +kernel
theorem d_R_nearestWay_25 : decode prog_11_method_123_code 25 = .ok (.aload_n 0, 1) := by decide +kernel
theorem d_R_nearestWay_26 : decode prog_11_method_123_code 26 = .ok (.iload_n 2, 1) := by decide +kernel
theorem d_R_nearestWay_27 : decode prog_11_method_123_code 27 = .ok (.iload_n 3, 1) := by decide +kernel
theorem d_R_nearestWay_28 : decode prog_11_method_123_code 28 = .ok (.invokevirtual 105, 3) := by decide +kernel
theorem d_R_nearestWay_31 : decode prog_11_method_123_code 31 = .ok (.ixor, 1) := by decide +kernel
theorem d_R_nearestWay_32 : decode prog_11_method_123_code 32 = .ok (.invokestatic 121, 3) := by decide +kernel
theorem d_R_nearestWay_35 : decode prog_11_method_123_code 35 = .ok (.if_icmp .ge 6, 3) := by decide +kernel
theorem d_R_nearestWay_38 : decode prog_11_method_123_code 38 = .ok (.iload 4, 2) := by decide +kernel
theorem d_R_nearestWay_40 : decode prog_11_method_123_code 40 = .ok (.istore_n 3, 1) := by decide +kernel
theorem d_R_nearestWay_41 : decode prog_11_method_123_code 41 = .ok (.iinc 4 1, 3) := by decide +kernel
theorem d_R_nearestWay_44 : decode prog_11_method_123_code 44 = .ok (.goto (-39), 3) := by decide +kernel
theorem d_R_nearestWay_47 : decode prog_11_method_123_code 47 = .ok (.iload_n 3, 1) := by decide +kernel
theorem d_R_nearestWay_48 : decode prog_11_method_123_code 48 = .ok (.ireturn, 1) := by decide +kernel
theorem d_R_way_0 : decode prog_11_method_126_code 0 = .ok (.aload_n 0, 1) := by decide +kernel
theorem d_R_way_1 : decode prog_11_method_126_code 1 = .ok (.iload_n 1, 1) := by decide +kernel
theorem d_R_way_2 : decode prog_11_method_126_code 2 = .ok (.invokevirtual 379, 3) := by decide +kernel
theorem d_R_way_5 : decode prog_11_method_126_code 5 = .ok (.ifCond .eq 36, 3) := by decide +kernel
theorem d_R_way_8 : decode prog_11_method_126_code 8 = .ok (.aload_n 0, 1) := by decide +kernel
theorem d_R_way_9 : decode prog_11_method_126_code 9 = .ok (.iload_n 2, 1) := by decide +kernel
theorem d_R_way_10 : decode prog_11_method_126_code 10 = .ok (.invokevirtual 379, 3) := by decide +kernel
theorem d_R_way_13 : decode prog_11_method_126_code 13 = .ok (.ifCond .eq 28, 3) := by decide +kernel
theorem d_R_way_16 : decode prog_11_method_126_code 16 = .ok (.aload_n 0, 1) := by decide +kernel
theorem d_R_way_17 : decode prog_11_method_126_code 17 = .ok (.aload_n 0, 1) := by decide +kernel
theorem d_R_way_18 : decode prog_11_method_126_code 18 = .ok (.getfield 7, 3) := by decide +kernel
theorem d_R_way_21 : decode prog_11_method_126_code 21 = .ok (.bipush 10, 2) := by decide +kernel
theorem d_R_way_23 : decode prog_11_method_126_code 23 = .ok (.iload_n 1, 1) := by decide +kernel
theorem d_R_way_24 : decode prog_11_method_126_code 24 = .ok (.iadd, 1) := by decide +kernel
theorem d_R_way_25 : decode prog_11_method_126_code 25 = .ok (.iaload, 1) := by decide +kernel
theorem d_R_way_26 : decode prog_11_method_126_code 26 = .ok (.aload_n 0, 1) := by decide +kernel
theorem d_R_way_27 : decode prog_11_method_126_code 27 = .ok (.getfield 7, 3) := by decide +kernel
theorem d_R_way_30 : decode prog_11_method_126_code 30 = .ok (.bipush 10, 2) := by decide +kernel
theorem d_R_way_32 : decode prog_11_method_126_code 32 = .ok (.iload_n 2, 1) := by decide +kernel
theorem d_R_way_33 : decode prog_11_method_126_code 33 = .ok (.iadd, 1) := by decide +kernel
theorem d_R_way_34 : decode prog_11_method_126_code 34 = .ok (.iaload, 1) := by decide +kernel
theorem d_R_way_35 : decode prog_11_method_126_code 35 = .ok (.invokevirtual 455, 3) := by decide +kernel
theorem d_R_way_38 : decode prog_11_method_126_code 38 = .ok (.goto 4, 3) := by decide +kernel
theorem d_R_way_41 : decode prog_11_method_126_code 41 = .ok (.iconst (-1), 1) := by decide +kernel
theorem d_R_way_42 : decode prog_11_method_126_code 42 = .ok (.ireturn, 1) := by decide +kernel
theorem d_R_made_0 : decode prog_11_method_129_code 0 = .ok (.aload_n 0, 1) := by decide +kernel
theorem d_R_made_1 : decode prog_11_method_129_code 1 = .ok (.iload_n 1, 1) := by decide +kernel
theorem d_R_made_2 : decode prog_11_method_129_code 2 = .ok (.invokevirtual 379, 3) := by decide +kernel
theorem d_R_made_5 : decode prog_11_method_129_code 5 = .ok (.ifCond .eq 11, 3) := by decide +kernel
theorem d_R_made_8 : decode prog_11_method_129_code 8 = .ok (.aload_n 0, 1) := by decide +kernel
theorem d_R_made_9 : decode prog_11_method_129_code 9 = .ok (.iload_n 2, 1) := by decide +kernel
theorem d_R_made_10 : decode prog_11_method_129_code 10 = .ok (.invokevirtual 379, 3) := by decide +kernel
theorem d_R_made_13 : decode prog_11_method_129_code 13 = .ok (.ifCond .ne 5, 3) := by decide +kernel
theorem d_R_made_16 : decode prog_11_method_129_code 16 = .ok (.iconst (-1), 1) := by decide +kernel
theorem d_R_made_17 : decode prog_11_method_129_code 17 = .ok (.ireturn, 1) := by decide +kernel
theorem d_R_made_18 : decode prog_11_method_129_code 18 = .ok (.aload_n 0, 1) := by decide +kernel
theorem d_R_made_19 : decode prog_11_method_129_code 19 = .ok (.aload_n 0, 1) := by decide +kernel
theorem d_R_made_20 : decode prog_11_method_129_code 20 = .ok (.getfield 7, 3) := by decide +kernel
theorem d_R_made_23 : decode prog_11_method_129_code 23 = .ok (.bipush 10, 2) := by decide +kernel
theorem d_R_made_25 : decode prog_11_method_129_code 25 = .ok (.iload_n 1, 1) := by decide +kernel
theorem d_R_made_26 : decode prog_11_method_129_code 26 = .ok (.iadd, 1) := by decide +kernel
theorem d_R_made_27 : decode prog_11_method_129_code 27 = .ok (.iaload, 1) := by decide +kernel
theorem d_R_made_28 : decode prog_11_method_129_code 28 = .ok (.aload_n 0, 1) := by decide +kernel
theorem d_R_made_29 : decode prog_11_method_129_code 29 = .ok (.getfield 7, 3) := by decide +kernel
theorem d_R_made_32 : decode prog_11_method_129_code 32 = .ok (.bipush 10, 2) := by decide +kernel
theorem d_R_made_34 : decode prog_11_method_129_code 34 = .ok (.iload_n 2, 1) := by decide +kernel
theorem d_R_made_35 : decode prog_11_method_129_code 35 = .ok (.iadd, 1) := by decide +kernel
theorem d_R_made_36 : decode prog_11_method_129_code 36 = .ok (.iaload, 1) := by decide +kernel
theorem d_R_made_37 : decode prog_11_method_129_code 37 = .ok (.invokevirtual 461, 3) := by decide +kernel
theorem d_R_made_40 : decode prog_11_method_129_code 40 = .ok (.istore 4, 2) := by decide +kernel
theorem d_R_made_42 : decode prog_11_method_129_code 42 = .ok (.iload 4, 2) := by decide +kernel
theorem d_R_made_44 : decode prog_11_method_129_code 44 = .ok (.iconst (-1), 1) := by decide +kernel
theorem d_R_made_45 : decode prog_11_method_129_code 45 = .ok (.if_icmp .eq 7, 3) := by decide +kernel
theorem d_R_made_48 : decode prog_11_method_129_code 48 = .ok (.iload_n 3, 1) := by decide +kernel
theorem d_R_made_49 : decode prog_11_method_129_code 49 = .ok (.ifCond .eq 8, 3) := by decide +kernel
theorem d_R_made_52 : decode prog_11_method_129_code 52 = .ok (.iload 4, 2) := by decide +kernel
theorem d_R_made_54 : decode prog_11_method_129_code 54 = .ok (.goto 28, 3) := by decide +kernel
theorem d_R_made_57 : decode prog_11_method_129_code 57 = .ok (.aload_n 0, 1) := by decide +kernel
theorem d_R_made_58 : decode prog_11_method_129_code 58 = .ok (.getfield 7, 3) := by decide +kernel
theorem d_R_made_61 : decode prog_11_method_129_code 61 = .ok (.bipush 10, 2) := by decide +kernel
theorem d_R_made_63 : decode prog_11_method_129_code 63 = .ok (.iload_n 2, 1) := by decide +kernel
theorem d_R_made_64 : decode prog_11_method_129_code 64 = .ok (.iadd, 1) := by decide +kernel
theorem d_R_made_65 : decode prog_11_method_129_code 65 = .ok (.iaload, 1) := by decide +kernel
theorem d_R_made_66 : decode prog_11_method_129_code 66 = .ok (.invokestatic 121, 3) := by decide +kernel
theorem d_R_made_69 : decode prog_11_method_129_code 69 = .ok (.aload_n 0, 1) := by decide +kernel
theorem d_R_made_70 : decode prog_11_method_129_code 70 = .ok (.getfield 7, 3) := by decide +kernel
theorem d_R_made_73 : decode prog_11_method_129_code 73 = .ok (.bipush 10, 2) := by decide +kernel
theorem d_R_made_75 : decode prog_11_method_129_code 75 = .ok (.iload_n 1, 1) := by decide +kernel
theorem d_R_made_76 : decode prog_11_method_129_code 76 = .ok (.iadd, 1) := by decide +kernel
theorem d_R_made_77 : decode prog_11_method_129_code 77 = .ok (.iaload, 1) := by decide +kernel
theorem d_R_made_78 : decode prog_11_method_129_code 78 = .ok (.invokestatic 121, 3) := by decide +kernel
theorem d_R_made_81 : decode prog_11_method_129_code 81 = .ok (.isub, 1) := by decide +kernel
theorem d_R_made_82 : decode prog_11_method_129_code 82 = .ok (.ireturn, 1) := by decide +kernel
theorem d_R_partWay_0 : decode prog_11_method_127_code 0 = .ok (.iconst 0, 1) := by decide +kernel
theorem d_R_partWay_1 : decode prog_11_method_127_code 1 = .ok (.istore_n 3, 1) := by decide +kernel
theorem d_R_partWay_2 : decode prog_11_method_127_code 2 = .ok (.iload_n 3, 1) := by decide +kernel
theorem d_R_partWay_3 : decode prog_11_method_127_code 3 = .ok (.bipush 8, 2) := by decide +kernel
theorem d_R_partWay_5 : decode prog_11_method_127_code 5 = .ok (.if_icmp .ge 24, 3) := by decide +kernel
theorem d_R_partWay_8 : decode prog_11_method_127_code 8 = .ok (.iload_n 1, 1) := by decide +kernel
theorem d_R_partWay_9 : decode prog_11_method_127_code 9 = .ok (.aload_n 0, 1) := by decide +kernel
theorem d_R_partWay_10 : decode prog_11_method_127_code 10 = .ok (.iload_n 2, 1) := by decide +kernel
theorem d_R_partWay_11 : decode prog_11_method_127_code 11 = .ok (.iload_n 3, 1) := by decide +kernel
theorem d_R_partWay_12 : decode prog_11_method_127_code 12 = .ok (.invokevirtual 105, 3) := by decide +kernel
theorem d_R_partWay_15 : decode prog_11_method_127_code 15 = .ok (.iconst (-1), 1) := by decide +kernel
theorem d_R_partWay_16 : decode prog_11_method_127_code 16 = .ok (.ixor, 1) := by decide +kernel
theorem d_R_partWay_17 : decode prog_11_method_127_code 17 = .ok (.iand, 1) := by decide +kernel
theorem d_R_partWay_18 : decode prog_11_method_127_code 18 = .ok (.ifCond .ne 5, 3) := by decide +kernel
theorem d_R_partWay_21 : decode prog_11_method_127_code 21 = .ok (.iload_n 3, 1) := by decide +kernel
theorem d_R_partWay_22 : decode prog_11_method_127_code 22 = .ok (.ireturn, 1) := by decide +kernel
theorem d_R_partWay_23 : decode prog_11_method_127_code 23 = .ok (.iinc 3 1, 3) := by decide +kernel
theorem d_R_partWay_26 : decode prog_11_method_127_code 26 = .ok (.goto (-24), 3) := by decide +kernel
theorem d_R_partWay_29 : decode prog_11_method_127_code 29 = .ok (.iconst (-1), 1) := by decide +kernel
theorem d_R_partWay_30 : decode prog_11_method_127_code 30 = .ok (.ireturn, 1) := by decide +kernel
theorem d_R_clash_0 : decode prog_11_method_131_code 0 = .ok (.iload_n 1, 1) := by decide +kernel
theorem d_R_clash_1 : decode prog_11_method_131_code 1 = .ok (.iconst 0, 1) := by decide +kernel
theorem d_R_clash_2 : decode prog_11_method_131_code 2 = .ok (.bipush 20, 2) := by decide +kernel
theorem d_R_clash_4 : decode prog_11_method_131_code 4 = .ok (.invokestatic 89, 3) := by decide +kernel
theorem d_R_clash_7 : decode prog_11_method_131_code 7 = .ok (.ifCond .ne 5, 3) := by decide +kernel
theorem d_R_clash_10 : decode prog_11_method_131_code 10 = .ok (.iconst (-1), 1) := by decide +kernel
theorem d_R_clash_11 : decode prog_11_method_131_code 11 = .ok (.ireturn, 1) := by decide +kernel
theorem d_R_clash_12 : decode prog_11_method_131_code 12 = .ok (.iconst 0, 1) := by decide +kernel
theorem d_R_clash_13 : decode prog_11_method_131_code 13 = .ok (.istore_n 3, 1) := by decide +kernel
theorem d_R_clash_14 : decode prog_11_method_131_code 14 = .ok (.iload_n 3, 1) := by decide +kernel
theorem d_R_clash_15 : decode prog_11_method_131_code 15 = .ok (.aload_n 0, 1) := by decide +kernel
theorem d_R_clash_16 : decode prog_11_method_131_code 16 = .ok (.getfield 7, 3) := by decide +kernel
theorem d_R_clash_19 : decode prog_11_method_131_code 19 = .ok (.iconst 0, 1) := by decide +kernel
theorem d_R_clash_20 : decode prog_11_method_131_code 20 = .ok (.iaload, 1) := by decide +kernel
theorem d_R_clash_21 : decode prog_11_method_131_code 21 = .ok (.if_icmp .ge 61, 3) := by decide +kernel
theorem d_R_clash_24 : decode prog_11_method_131_code 24 = .ok (.iload_n 3, 1) := by decide +kernel
theorem d_R_clash_25 : decode prog_11_method_131_code 25 = .ok (.iconst 1, 1) := by decide +kernel
theorem d_R_clash_26 : decode prog_11_method_131_code 26 = .ok (.iadd, 1) := by decide +kernel
theorem d_R_clash_27 : decode prog_11_method_131_code 27 = .ok (.istore 4, 2) := by decide +kernel
theorem d_R_clash_29 : decode prog_11_method_131_code 29 = .ok (.iload 4, 2) := by decide +kernel
theorem d_R_clash_31 : decode prog_11_method_131_code 31 = .ok (.aload_n 0, 1) := by decide +kernel
theorem d_R_clash_32 : decode prog_11_method_131_code 32 = .ok (.getfield 7, 3) := by decide +kernel
theorem d_R_clash_35 : decode prog_11_method_131_code 35 = .ok (.iconst 0, 1) := by decide +kernel
theorem d_R_clash_36 : decode prog_11_method_131_code 36 = .ok (.iaload, 1) := by decide +kernel
theorem d_R_clash_37 : decode prog_11_method_131_code 37 = .ok (.if_icmp .ge 39, 3) := by decide +kernel
theorem d_R_clash_40 : decode prog_11_method_131_code 40 = .ok (.aload_n 0, 1) := by decide +kernel
theorem d_R_clash_41 : decode prog_11_method_131_code 41 = .ok (.iload_n 3, 1) := by decide +kernel
theorem d_R_clash_42 : decode prog_11_method_131_code 42 = .ok (.aload_n 0, 1) := by decide +kernel
theorem d_R_clash_43 : decode prog_11_method_131_code 43 = .ok (.getfield 7, 3) := by decide +kernel
theorem d_R_clash_46 : decode prog_11_method_131_code 46 = .ok (.bipush 18, 2) := by decide +kernel
theorem d_R_clash_48 : decode prog_11_method_131_code 48 = .ok (.iload 4, 2) := by decide +kernel
theorem d_R_clash_50 : decode prog_11_method_131_code 50 = .ok (.iadd, 1) := by decide +kernel
theorem d_R_clash_51 : decode prog_11_method_131_code 51 = .ok (.iaload, 1) := by decide +kernel
theorem d_R_clash_52 : decode prog_11_method_131_code 52 = .ok (.iload_n 1, 1) := by decide +kernel
theorem d_R_clash_53 : decode prog_11_method_131_code 53 = .ok (.invokevirtual 467, 3) := by decide +kernel
theorem d_R_clash_56 : decode prog_11_method_131_code 56 = .ok (.ifCond .eq 14, 3) := by decide +kernel
theorem d_R_clash_59 : decode prog_11_method_131_code 59 = .ok (.iload_n 2, 1) := by decide +kernel
theorem d_R_clash_60 : decode prog_11_method_131_code 60 = .ok (.ifCond .eq 8, 3) := by decide +kernel
theorem d_R_clash_63 : decode prog_11_method_131_code 63 = .ok (.iload 4, 2) := by decide +kernel
theorem d_R_clash_65 : decode prog_11_method_131_code 65 = .ok (.goto 4, 3) := by decide +kernel
theorem d_R_clash_68 : decode prog_11_method_131_code 68 = .ok (.iload_n 3, 1) := by decide +kernel
theorem d_R_clash_69 : decode prog_11_method_131_code 69 = .ok (.ireturn, 1) := by decide +kernel
theorem d_R_clash_70 : decode prog_11_method_131_code 70 = .ok (.iinc 4 1, 3) := by decide +kernel
theorem d_R_clash_73 : decode prog_11_method_131_code 73 = .ok (.goto (-44), 3) := by decide +kernel
theorem d_R_clash_76 : decode prog_11_method_131_code 76 = .ok (.iinc 3 1, 3) := by decide +kernel
theorem d_R_clash_79 : decode prog_11_method_131_code 79 = .ok (.goto (-65), 3) := by decide +kernel
theorem d_R_clash_82 : decode prog_11_method_131_code 82 = .ok (.iconst (-1), 1) := by decide +kernel
theorem d_R_clash_83 : decode prog_11_method_131_code 83 = .ok (.ireturn, 1) := by decide +kernel
theorem d_R_doClash_0 : decode prog_11_method_130_code 0 = .ok (.aload_n 0, 1) := by decide +kernel
theorem d_R_doClash_1 : decode prog_11_method_130_code 1 = .ok (.aload_n 0, 1) := by decide +kernel
theorem d_R_doClash_2 : decode prog_11_method_130_code 2 = .ok (.getfield 7, 3) := by decide +kernel
theorem d_R_doClash_5 : decode prog_11_method_130_code 5 = .ok (.bipush 18, 2) := by decide +kernel
theorem d_R_doClash_7 : decode prog_11_method_130_code 7 = .ok (.iload_n 1, 1) := by decide +kernel
theorem d_R_doClash_8 : decode prog_11_method_130_code 8 = .ok (.iadd, 1) := by decide +kernel
theorem d_R_doClash_9 : decode prog_11_method_130_code 9 = .ok (.iaload, 1) := by decide +kernel
theorem d_R_doClash_10 : decode prog_11_method_130_code 10 = .ok (.iload_n 2, 1) := by decide +kernel
theorem d_R_doClash_11 : decode prog_11_method_130_code 11 = .ok (.iload_n 3, 1) := by decide +kernel
theorem d_R_doClash_12 : decode prog_11_method_130_code 12 = .ok (.invokevirtual 464, 3) := by decide +kernel
theorem d_R_doClash_15 : decode prog_11_method_130_code 15 = .ok (.ifCond .ne 21, 3) := by decide +kernel
theorem d_R_doClash_18 : decode prog_11_method_130_code 18 = .ok (.aload_n 0, 1) := by decide +kernel
theorem d_R_doClash_19 : decode prog_11_method_130_code 19 = .ok (.iload_n 2, 1) := by decide +kernel
theorem d_R_doClash_20 : decode prog_11_method_130_code 20 = .ok (.aload_n 0, 1) := by decide +kernel
theorem d_R_doClash_21 : decode prog_11_method_130_code 21 = .ok (.getfield 7, 3) := by decide +kernel
theorem d_R_doClash_24 : decode prog_11_method_130_code 24 = .ok (.bipush 18, 2) := by decide +kernel
theorem d_R_doClash_26 : decode prog_11_method_130_code 26 = .ok (.iload_n 1, 1) := by decide +kernel
theorem d_R_doClash_27 : decode prog_11_method_130_code 27 = .ok (.iadd, 1) := by decide +kernel
theorem d_R_doClash_28 : decode prog_11_method_130_code 28 = .ok (.iaload, 1) := by decide +kernel
theorem d_R_doClash_29 : decode prog_11_method_130_code 29 = .ok (.iload_n 3, 1) := by decide +kernel
theorem d_R_doClash_30 : decode prog_11_method_130_code 30 = .ok (.invokevirtual 464, 3) := by decide +kernel
theorem d_R_doClash_33 : decode prog_11_method_130_code 33 = .ok (.ifCond .eq 7, 3) := by decide +kernel
theorem d_R_doClash_36 : decode prog_11_method_130_code 36 = .ok (.iconst 1, 1) := by decide +kernel
theorem d_R_doClash_37 : decode prog_11_method_130_code 37 = .ok (.goto 4, 3) := by decide +kernel
theorem d_R_doClash_40 : decode prog_11_method_130_code 40 = .ok (.iconst 0, 1) := by decide +kernel
theorem d_R_doClash_41 : decode prog_11_method_130_code 41 = .ok (.ireturn, 1) := by decide +kernel
theorem d_R_isMade_0 : decode prog_11_method_128_code 0 = .ok (.iload_n 2, 1) := by decide +kernel
theorem d_R_isMade_1 : decode prog_11_method_128_code 1 = .ok (.invokestatic 121, 3) := by decide +kernel
theorem d_R_isMade_4 : decode prog_11_method_128_code 4 = .ok (.iload_n 1, 1) := by decide +kernel
theorem d_R_isMade_5 : decode prog_11_method_128_code 5 = .ok (.invokestatic 121, 3) := by decide +kernel
theorem d_R_isMade_8 : decode prog_11_method_128_code 8 = .ok (.isub, 1) := by decide +kernel
theorem d_R_isMade_9 : decode prog_11_method_128_code 9 = .ok (.iload_n 3, 1) := by decide +kernel
theorem d_R_isMade_10 : decode prog_11_method_128_code 10 = .ok (.if_icmp .gt 17, 3) := by decide +kernel
theorem d_R_isMade_13 : decode prog_11_method_128_code 13 = .ok (.aload_n 0, 1) := by decide +kernel
theorem d_R_isMade_14 : decode prog_11_method_128_code 14 = .ok (.iload_n 1, 1) := by decide +kernel
theorem d_R_isMade_15 : decode prog_11_method_128_code 15 = .ok (.iload_n 2, 1) := by decide +kernel
theorem d_R_isMade_16 : decode prog_11_method_128_code 16 = .ok (.invokevirtual 461, 3) := by decide +kernel
theorem d_R_isMade_19 : decode prog_11_method_128_code 19 = .ok (.iconst (-1), 1) := by decide +kernel
theorem d_R_isMade_20 : decode prog_11_method_128_code 20 = .ok (.if_icmp .eq 7, 3) := by decide +kernel
theorem d_R_isMade_23 : decode prog_11_method_128_code 23 = .ok (.iconst 1, 1) := by decide +kernel
theorem d_R_isMade_24 : decode prog_11_method_128_code 24 = .ok (.goto 4, 3) := by decide +kernel
theorem d_R_isMade_27 : decode prog_11_method_128_code 27 = .ok (.iconst 0, 1) := by decide +kernel
theorem d_R_isMade_28 : decode prog_11_method_128_code 28 = .ok (.ireturn, 1) := by decide +kernel
theorem d_R_chain_0 : decode prog_11_method_132_code 0 = .ok (.aload_n 0, 1) := by decide +kernel
theorem d_R_chain_1 : decode prog_11_method_132_code 1 = .ok (.iload_n 1, 1) := by decide +kernel
theorem d_R_chain_2 : decode prog_11_method_132_code 2 = .ok (.invokevirtual 379, 3) := by decide +kernel
theorem d_R_chain_5 : decode prog_11_method_132_code 5 = .ok (.ifCond .eq 21, 3) := by decide +kernel
theorem d_R_chain_8 : decode prog_11_method_132_code 8 = .ok (.aload_n 0, 1) := by decide +kernel
theorem d_R_chain_9 : decode prog_11_method_132_code 9 = .ok (.iload_n 2, 1) := by decide +kernel
theorem d_R_chain_10 : decode prog_11_method_132_code 10 = .ok (.invokevirtual 379, 3) := by decide +kernel
theorem d_R_chain_13 : decode prog_11_method_132_code 13 = .ok (.ifCond .eq 13, 3) := by decide +kernel
theorem d_R_chain_16 : decode prog_11_method_132_code 16 = .ok (.iload_n 3, 1) := by decide +kernel
theorem d_R_chain_17 : decode prog_11_method_132_code 17 = .ok (.iconst 0, 1) := by decide +kernel
theorem d_R_chain_18 : decode prog_11_method_132_code 18 = .ok (.bipush 20, 2) := by decide +kernel
theorem d_R_chain_20 : decode prog_11_method_132_code 20 = .ok (.invokestatic 89, 3) := by decide +kernel
theorem d_R_chain_23 : decode prog_11_method_132_code 23 = .ok (.ifCond .ne 5, 3) := by decide +kernel
theorem d_R_chain_26 : decode prog_11_method_132_code 26 = .ok (.iconst (-1), 1) := by decide +kernel
theorem d_R_chain_27 : decode prog_11_method_132_code 27 = .ok (.ireturn, 1) := by decide +kernel
theorem d_R_chain_28 : decode prog_11_method_132_code 28 = .ok (.iconst 1, 1) := by decide +kernel
theorem d_R_chain_29 : decode prog_11_method_132_code 29 = .ok (.iload_n 1, 1) := by decide +kernel
theorem d_R_chain_30 : decode prog_11_method_132_code 30 = .ok (.ishl, 1) := by decide +kernel
theorem d_R_chain_31 : decode prog_11_method_132_code 31 = .ok (.istore 4, 2) := by decide +kernel
theorem d_R_chain_33 : decode prog_11_method_132_code 33 = .ok (.iconst 0, 1) := by decide +kernel
theorem d_R_chain_34 : decode prog_11_method_132_code 34 = .ok (.istore 5, 2) := by decide +kernel
theorem d_R_chain_36 : decode prog_11_method_132_code 36 = .ok (.iload 5, 2) := by decide +kernel
theorem d_R_chain_38 : decode prog_11_method_132_code 38 = .ok (.bipush 8, 2) := by decide +kernel
theorem d_R_chain_40 : decode prog_11_method_132_code 40 = .ok (.if_icmp .ge 116, 3) := by decide +kernel
theorem d_R_chain_43 : decode prog_11_method_132_code 43 = .ok (.iload 4, 2) := by decide +kernel
theorem d_R_chain_45 : decode prog_11_method_132_code 45 = .ok (.iload_n 2, 1) := by decide +kernel
theorem d_R_chain_46 : decode prog_11_method_132_code 46 = .ok (.invokestatic 94, 3) := by decide +kernel
theorem d_R_chain_49 : decode prog_11_method_132_code 49 = .ok (.ifCond .eq 6, 3) := by decide +kernel
theorem d_R_chain_52 : decode prog_11_method_132_code 52 = .ok (.iload 5, 2) := by decide +kernel
theorem d_R_chain_54 : decode prog_11_method_132_code 54 = .ok (.ireturn, 1) := by decide +kernel
theorem d_R_chain_55 : decode prog_11_method_132_code 55 = .ok (.iload 4, 2) := by decide +kernel
theorem d_R_chain_57 : decode prog_11_method_132_code 57 = .ok (.istore 6, 2) := by decide +kernel
theorem d_R_chain_59 : decode prog_11_method_132_code 59 = .ok (.iconst 0, 1) := by decide +kernel
theorem d_R_chain_60 : decode prog_11_method_132_code 60 = .ok (.istore 7, 2) := by decide +kernel
theorem d_R_chain_62 : decode prog_11_method_132_code 62 = .ok (.iload 7, 2) := by decide +kernel
theorem d_R_chain_64 : decode prog_11_method_132_code 64 = .ok (.aload_n 0, 1) := by decide +kernel
theorem d_R_chain_65 : decode prog_11_method_132_code 65 = .ok (.getfield 7, 3) := by decide +kernel
theorem d_R_chain_68 : decode prog_11_method_132_code 68 = .ok (.iconst 0, 1) := by decide +kernel
theorem d_R_chain_69 : decode prog_11_method_132_code 69 = .ok (.iaload, 1) := by decide +kernel
theorem d_R_chain_70 : decode prog_11_method_132_code 70 = .ok (.if_icmp .ge 76, 3) := by decide +kernel
theorem d_R_chain_73 : decode prog_11_method_132_code 73 = .ok (.iconst 0, 1) := by decide +kernel
theorem d_R_chain_74 : decode prog_11_method_132_code 74 = .ok (.istore 8, 2) := by decide +kernel
theorem d_R_chain_76 : decode prog_11_method_132_code 76 = .ok (.iload 8, 2) := by decide +kernel
theorem d_R_chain_78 : decode prog_11_method_132_code 78 = .ok (.aload_n 0, 1) := by decide +kernel
theorem d_R_chain_79 : decode prog_11_method_132_code 79 = .ok (.getfield 7, 3) := by decide +kernel
theorem d_R_chain_82 : decode prog_11_method_132_code 82 = .ok (.iconst 0, 1) := by decide +kernel
theorem d_R_chain_83 : decode prog_11_method_132_code 83 = .ok (.iaload, 1) := by decide +kernel
theorem d_R_chain_84 : decode prog_11_method_132_code 84 = .ok (.if_icmp .ge 56, 3) := by decide +kernel
theorem d_R_chain_87 : decode prog_11_method_132_code 87 = .ok (.iload 4, 2) := by decide +kernel
theorem d_R_chain_89 : decode prog_11_method_132_code 89 = .ok (.iload 7, 2) := by decide +kernel
theorem d_R_chain_91 : decode prog_11_method_132_code 91 = .ok (.invokestatic 94, 3) := by decide +kernel
theorem d_R_chain_94 : decode prog_11_method_132_code 94 = .ok (.ifCond .eq 40, 3) := by decide +kernel
theorem d_R_chain_97 : decode prog_11_method_132_code 97 = .ok (.aload_n 0, 1) := by decide +kernel
theorem d_R_chain_98 : decode prog_11_method_132_code 98 = .ok (.aload_n 0, 1) := by decide +kernel
theorem d_R_chain_99 : decode prog_11_method_132_code 99 = .ok (.getfield 7, 3) := by decide +kernel
theorem d_R_chain_102 : decode prog_11_method_132_code 102 = .ok (.bipush 10, 2) := by decide +kernel
theorem d_R_chain_104 : decode prog_11_method_132_code 104 = .ok (.iload 7, 2) := by decide +kernel
theorem d_R_chain_106 : decode prog_11_method_132_code 106 = .ok (.iadd, 1) := by decide +kernel
theorem d_R_chain_107 : decode prog_11_method_132_code 107 = .ok (.iaload, 1) := by decide +kernel
theorem d_R_chain_108 : decode prog_11_method_132_code 108 = .ok (.aload_n 0, 1) := by decide +kernel
theorem d_R_chain_109 : decode prog_11_method_132_code 109 = .ok (.getfield 7, 3) := by decide +kernel
theorem d_R_chain_112 : decode prog_11_method_132_code 112 = .ok (.bipush 10, 2) := by decide +kernel
theorem d_R_chain_114 : decode prog_11_method_132_code 114 = .ok (.iload 8, 2) := by decide +kernel
theorem d_R_chain_116 : decode prog_11_method_132_code 116 = .ok (.iadd, 1) := by decide +kernel
theorem d_R_chain_117 : decode prog_11_method_132_code 117 = .ok (.iaload, 1) := by decide +kernel
theorem d_R_chain_118 : decode prog_11_method_132_code 118 = .ok (.iload_n 3, 1) := by decide +kernel
theorem d_R_chain_119 : decode prog_11_method_132_code 119 = .ok (.invokevirtual 464, 3) := by decide +kernel
theorem d_R_chain_122 : decode prog_11_method_132_code 122 = .ok (.ifCond .eq 12, 3) := by decide +kernel
theorem d_R_chain_125 : decode prog_11_method_132_code 125 = .ok (.iload 6, 2) := by decide +kernel
theorem d_R_chain_127 : decode prog_11_method_132_code 127 = .ok (.iconst 1, 1) := by decide +kernel
theorem d_R_chain_128 : decode prog_11_method_132_code 128 = .ok (.iload 8, 2) := by decide +kernel
theorem d_R_chain_130 : decode prog_11_method_132_code 130 = .ok (.ishl, 1) := by decide +kernel
theorem d_R_chain_131 : decode prog_11_method_132_code 131 = .ok (.ior, 1) := by decide +kernel
theorem d_R_chain_132 : decode prog_11_method_132_code 132 = .ok (.istore 6, 2) := by decide +kernel
theorem d_R_chain_134 : decode prog_11_method_132_code 134 = .ok (.iinc 8 1, 3) := by decide +kernel
theorem d_R_chain_137 : decode prog_11_method_132_code 137 = .ok (.goto (-61), 3) := by decide +kernel
theorem d_R_chain_140 : decode prog_11_method_132_code 140 = .ok (.iinc 7 1, 3) := by decide +kernel
theorem d_R_chain_143 : decode prog_11_method_132_code 143 = .ok (.goto (-81), 3) := by decide +kernel
theorem d_R_chain_146 : decode prog_11_method_132_code 146 = .ok (.iload 6, 2) := by decide +kernel
theorem d_R_chain_148 : decode prog_11_method_132_code 148 = .ok (.istore 4, 2) := by decide +kernel
theorem d_R_chain_150 : decode prog_11_method_132_code 150 = .ok (.iinc 5 1, 3) := by decide +kernel
theorem d_R_chain_153 : decode prog_11_method_132_code 153 = .ok (.goto (-117), 3) := by decide +kernel
theorem d_R_chain_156 : decode prog_11_method_132_code 156 = .ok (.iconst (-1), 1) := by decide +kernel
theorem d_R_chain_157 : decode prog_11_method_132_code 157 = .ok (.ireturn, 1) := by decide +kernel
theorem d_R_free_0 : decode prog_11_method_135_code 0 = .ok (.iload_n 1, 1) := by decide +kernel
theorem d_R_free_1 : decode prog_11_method_135_code 1 = .ok (.iload_n 2, 1) := by decide +kernel
theorem d_R_free_2 : decode prog_11_method_135_code 2 = .ok (.invokestatic 470, 3) := by decide +kernel
theorem d_R_free_5 : decode prog_11_method_135_code 5 = .ok (.ifCond .ne 5, 3) := by decide +kernel
theorem d_R_free_8 : decode prog_11_method_135_code 8 = .ok (.iconst (-1), 1) := by decide +kernel
theorem d_R_free_9 : decode prog_11_method_135_code 9 = .ok (.ireturn, 1) := by decide +kernel
theorem d_R_free_10 : decode prog_11_method_135_code 10 = .ok (.iconst 1, 1) := by decide +kernel
theorem d_R_free_11 : decode prog_11_method_135_code 11 = .ok (.iload_n 1, 1) := by decide +kernel
theorem d_R_free_12 : decode prog_11_method_135_code 12 = .ok (.ishl, 1) := by decide +kernel
theorem d_R_free_13 : decode prog_11_method_135_code 13 = .ok (.iconst 1, 1) := by decide +kernel
theorem d_R_free_14 : decode prog_11_method_135_code 14 = .ok (.isub, 1) := by decide +kernel
theorem d_R_free_15 : decode prog_11_method_135_code 15 = .ok (.istore_n 3, 1) := by decide +kernel
theorem d_R_free_16 : decode prog_11_method_135_code 16 = .ok (.iload_n 3, 1) := by decide +kernel
theorem d_R_free_17 : decode prog_11_method_135_code 17 = .ok (.iconst (-1), 1) := by decide +kernel
theorem d_R_free_18 : decode prog_11_method_135_code 18 = .ok (.if_icmp .eq 64, 3) := by decide +kernel
theorem d_R_free_21 : decode prog_11_method_135_code 21 = .ok (.iconst 1, 1) := by decide +kernel
theorem d_R_free_22 : decode prog_11_method_135_code 22 = .ok (.istore 4, 2) := by decide +kernel
theorem d_R_free_24 : decode prog_11_method_135_code 24 = .ok (.iconst 0, 1) := by decide +kernel
theorem d_R_free_25 : decode prog_11_method_135_code 25 = .ok (.istore 5, 2) := by decide +kernel
theorem d_R_free_27 : decode prog_11_method_135_code 27 = .ok (.iload 5, 2) := by decide +kernel
theorem d_R_free_29 : decode prog_11_method_135_code 29 = .ok (.aload_n 0, 1) := by decide +kernel
theorem d_R_free_30 : decode prog_11_method_135_code 30 = .ok (.getfield 7, 3) := by decide +kernel
theorem d_R_free_33 : decode prog_11_method_135_code 33 = .ok (.iconst 0, 1) := by decide +kernel
theorem d_R_free_34 : decode prog_11_method_135_code 34 = .ok (.iaload, 1) := by decide +kernel
theorem d_R_free_35 : decode prog_11_method_135_code 35 = .ok (.if_icmp .ge 32, 3) := by decide +kernel
theorem d_R_free_38 : decode prog_11_method_135_code 38 = .ok (.iload 4, 2) := by decide +kernel
theorem d_R_free_40 : decode prog_11_method_135_code 40 = .ok (.ifCond .eq 18, 3) := by decide +kernel
theorem d_R_free_43 : decode prog_11_method_135_code 43 = .ok (.aload_n 0, 1) := by decide +kernel
theorem d_R_free_44 : decode prog_11_method_135_code 44 = .ok (.iload 5, 2) := by decide +kernel
theorem d_R_free_46 : decode prog_11_method_135_code 46 = .ok (.iload_n 3, 1) := by decide +kernel
theorem d_R_free_47 : decode prog_11_method_135_code 47 = .ok (.iload_n 2, 1) := by decide +kernel
theorem d_R_free_48 : decode prog_11_method_135_code 48 = .ok (.invokevirtual 467, 3) := by decide +kernel
theorem d_R_free_51 : decode prog_11_method_135_code 51 = .ok (.ifCond .ne 7, 3) := by decide +kernel
theorem d_R_free_54 : decode prog_11_method_135_code 54 = .ok (.iconst 1, 1) := by decide +kernel
theorem d_R_free_55 : decode prog_11_method_135_code 55 = .ok (.goto 4, 3) := by decide +kernel
theorem d_R_free_58 : decode prog_11_method_135_code 58 = .ok (.iconst 0, 1) := by decide +kernel
theorem d_R_free_59 : decode prog_11_method_135_code 59 = .ok (.istore 4, 2) := by decide +kernel
theorem d_R_free_61 : decode prog_11_method_135_code 61 = .ok (.iinc 5 1, 3) := by decide +kernel
theorem d_R_free_64 : decode prog_11_method_135_code 64 = .ok (.goto (-37), 3) := by decide +kernel
theorem d_R_free_67 : decode prog_11_method_135_code 67 = .ok (.iload 4, 2) := by decide +kernel
theorem d_R_free_69 : decode prog_11_method_135_code 69 = .ok (.ifCond .eq 5, 3) := by decide +kernel
theorem d_R_free_72 : decode prog_11_method_135_code 72 = .ok (.iload_n 3, 1) := by decide +kernel
theorem d_R_free_73 : decode prog_11_method_135_code 73 = .ok (.ireturn, 1) := by decide +kernel
theorem d_R_free_74 : decode prog_11_method_135_code 74 = .ok (.iload_n 3, 1) := by decide +kernel
theorem d_R_free_75 : decode prog_11_method_135_code 75 = .ok (.invokestatic 473, 3) := by decide +kernel
theorem d_R_free_78 : decode prog_11_method_135_code 78 = .ok (.istore_n 3, 1) := by decide +kernel
theorem d_R_free_79 : decode prog_11_method_135_code 79 = .ok (.goto (-63), 3) := by decide +kernel
theorem d_R_free_82 : decode prog_11_method_135_code 82 = .ok (.iconst (-1), 1) := by decide +kernel
theorem d_R_free_83 : decode prog_11_method_135_code 83 = .ok (.ireturn, 1) := by decide +kernel
theorem d_R_isFew_0 : decode prog_11_method_134_code 0 = .ok (.iload_n 0, 1) := by decide +kernel
theorem d_R_isFew_1 : decode prog_11_method_134_code 1 = .ok (.iconst 0, 1) := by decide +kernel
theorem d_R_isFew_2 : decode prog_11_method_134_code 2 = .ok (.iconst 4, 1) := by decide +kernel
theorem d_R_isFew_3 : decode prog_11_method_134_code 3 = .ok (.invokestatic 89, 3) := by decide +kernel
theorem d_R_isFew_6 : decode prog_11_method_134_code 6 = .ok (.ifCond .eq 17, 3) := by decide +kernel
theorem d_R_isFew_9 : decode prog_11_method_134_code 9 = .ok (.iload_n 1, 1) := by decide +kernel
theorem d_R_isFew_10 : decode prog_11_method_134_code 10 = .ok (.iconst 0, 1) := by decide +kernel
theorem d_R_isFew_11 : decode prog_11_method_134_code 11 = .ok (.bipush 20, 2) := by decide +kernel
theorem d_R_isFew_13 : decode prog_11_method_134_code 13 = .ok (.invokestatic 89, 3) := by decide +kernel
theorem d_R_isFew_16 : decode prog_11_method_134_code 16 = .ok (.ifCond .eq 7, 3) := by decide +kernel
theorem d_R_isFew_19 : decode prog_11_method_134_code 19 = .ok (.iconst 1, 1) := by decide +kernel
theorem d_R_isFew_20 : decode prog_11_method_134_code 20 = .ok (.goto 4, 3) := by decide +kernel
theorem d_R_isFew_23 : decode prog_11_method_134_code 23 = .ok (.iconst 0, 1) := by decide +kernel
theorem d_R_isFew_24 : decode prog_11_method_134_code 24 = .ok (.ireturn, 1) := by decide +kernel
theorem d_R_nextSet_0 : decode prog_11_method_133_code 0 = .ok (.iload_n 0, 1) := by decide +kernel
theorem d_R_nextSet_1 : decode prog_11_method_133_code 1 = .ok (.ifCond .ne 5, 3) := by decide +kernel
theorem d_R_nextSet_4 : decode prog_11_method_133_code 4 = .ok (.iconst (-1), 1) := by decide +kernel
theorem d_R_nextSet_5 : decode prog_11_method_133_code 5 = .ok (.ireturn, 1) := by decide +kernel
theorem d_R_nextSet_6 : decode prog_11_method_133_code 6 = .ok (.iload_n 0, 1) := by decide +kernel
theorem d_R_nextSet_7 : decode prog_11_method_133_code 7 = .ok (.iload_n 0, 1) := by decide +kernel
theorem d_R_nextSet_8 : decode prog_11_method_133_code 8 = .ok (.ineg, 1) := by decide +kernel
theorem d_R_nextSet_9 : decode prog_11_method_133_code 9 = .ok (.iand, 1) := by decide +kernel
theorem d_R_nextSet_10 : decode prog_11_method_133_code 10 = .ok (.istore_n 1, 1) := by decide +kernel
theorem d_R_nextSet_11 : decode prog_11_method_133_code 11 = .ok (.iload_n 0, 1) := by decide +kernel
theorem d_R_nextSet_12 : decode prog_11_method_133_code 12 = .ok (.iload_n 1, 1) := by decide +kernel
theorem d_R_nextSet_13 : decode prog_11_method_133_code 13 = .ok (.iadd, 1) := by decide +kernel
theorem d_R_nextSet_14 : decode prog_11_method_133_code 14 = .ok (.istore_n 2, 1) := by decide +kernel
theorem d_R_nextSet_15 : decode prog_11_method_133_code 15 = .ok (.iload_n 2, 1) := by decide +kernel
theorem d_R_nextSet_16 : decode prog_11_method_133_code 16 = .ok (.iload_n 0, 1) := by decide +kernel
theorem d_R_nextSet_17 : decode prog_11_method_133_code 17 = .ok (.iload_n 2, 1) := by decide +kernel
theorem d_R_nextSet_18 : decode prog_11_method_133_code 18 = .ok (.ixor, 1) := by decide +kernel
theorem d_R_nextSet_19 : decode prog_11_method_133_code 19 = .ok (.iload_n 1, 1) := by decide +kernel
theorem d_R_nextSet_20 : decode prog_11_method_133_code 20 = .ok (.idiv, 1) := by decide +kernel
theorem d_R_nextSet_21 : decode prog_11_method_133_code 21 = .ok (.iconst 2, 1) := by decide +kernel
theorem d_R_nextSet_22 : decode prog_11_method_133_code 22 = .ok (.ishr, 1) := by decide +kernel
theorem d_R_nextSet_23 : decode prog_11_method_133_code 23 = .ok (.ior, 1) := by decide +kernel
theorem d_R_nextSet_24 : decode prog_11_method_133_code 24 = .ok (.istore_n 3, 1) := by decide +kernel
theorem d_R_nextSet_25 : decode prog_11_method_133_code 25 = .ok (.iload_n 3, 1) := by decide +kernel
theorem d_R_nextSet_26 : decode prog_11_method_133_code 26 = .ok (.ldc 93, 2) := by decide +kernel
theorem d_R_nextSet_28 : decode prog_11_method_133_code 28 = .ok (.if_icmp .le 7, 3) := by decide +kernel
theorem d_R_nextSet_31 : decode prog_11_method_133_code 31 = .ok (.iconst (-1), 1) := by decide +kernel
theorem d_R_nextSet_32 : decode prog_11_method_133_code 32 = .ok (.goto 4, 3) := by decide +kernel
theorem d_R_nextSet_35 : decode prog_11_method_133_code 35 = .ok (.iload_n 3, 1) := by decide +kernel
theorem d_R_nextSet_36 : decode prog_11_method_133_code 36 = .ok (.ireturn, 1) := by decide +kernel
theorem d_R_apart_0 : decode prog_11_method_136_code 0 = .ok (.iload_n 1, 1) := by decide +kernel
theorem d_R_apart_1 : decode prog_11_method_136_code 1 = .ok (.iload_n 2, 1) := by decide +kernel
theorem d_R_apart_2 : decode prog_11_method_136_code 2 = .ok (.invokestatic 470, 3) := by decide +kernel
theorem d_R_apart_5 : decode prog_11_method_136_code 5 = .ok (.ifCond .ne 5, 3) := by decide +kernel
theorem d_R_apart_8 : decode prog_11_method_136_code 8 = .ok (.iconst (-1), 1) := by decide +kernel
theorem d_R_apart_9 : decode prog_11_method_136_code 9 = .ok (.ireturn, 1) := by decide +kernel
theorem d_R_apart_10 : decode prog_11_method_136_code 10 = .ok (.iconst 0, 1) := by decide +kernel
theorem d_R_apart_11 : decode prog_11_method_136_code 11 = .ok (.istore_n 3, 1) := by decide +kernel
theorem d_R_apart_12 : decode prog_11_method_136_code 12 = .ok (.iconst 1, 1) := by decide +kernel
theorem d_R_apart_13 : decode prog_11_method_136_code 13 = .ok (.iload_n 1, 1) := by decide +kernel
theorem d_R_apart_14 : decode prog_11_method_136_code 14 = .ok (.ishl, 1) := by decide +kernel
theorem d_R_apart_15 : decode prog_11_method_136_code 15 = .ok (.iconst 1, 1) := by decide +kernel
theorem d_R_apart_16 : decode prog_11_method_136_code 16 = .ok (.isub, 1) := by decide +kernel
theorem d_R_apart_17 : decode prog_11_method_136_code 17 = .ok (.istore 4, 2) := by decide +kernel
theorem d_R_apart_19 : decode prog_11_method_136_code 19 = .ok (.iload 4, 2) := by decide +kernel
theorem d_R_apart_21 : decode prog_11_method_136_code 21 = .ok (.iconst (-1), 1) := by decide +kernel
theorem d_R_apart_22 : decode prog_11_method_136_code 22 = .ok (.if_icmp .eq 81, 3) := by decide +kernel
theorem d_R_apart_25 : decode prog_11_method_136_code 25 = .ok (.iconst 1, 1) := by decide +kernel
theorem d_R_apart_26 : decode prog_11_method_136_code 26 = .ok (.istore 5, 2) := by decide +kernel
theorem d_R_apart_28 : decode prog_11_method_136_code 28 = .ok (.iconst 0, 1) := by decide +kernel
theorem d_R_apart_29 : decode prog_11_method_136_code 29 = .ok (.istore 6, 2) := by decide +kernel
theorem d_R_apart_31 : decode prog_11_method_136_code 31 = .ok (.iload 6, 2) := by decide +kernel
theorem d_R_apart_33 : decode prog_11_method_136_code 33 = .ok (.aload_n 0, 1) := by decide +kernel
theorem d_R_apart_34 : decode prog_11_method_136_code 34 = .ok (.getfield 7, 3) := by decide +kernel
theorem d_R_apart_37 : decode prog_11_method_136_code 37 = .ok (.iconst 0, 1) := by decide +kernel
theorem d_R_apart_38 : decode prog_11_method_136_code 38 = .ok (.iaload, 1) := by decide +kernel
theorem d_R_apart_39 : decode prog_11_method_136_code 39 = .ok (.if_icmp .ge 41, 3) := by decide +kernel
theorem d_R_apart_42 : decode prog_11_method_136_code 42 = .ok (.iload 5, 2) := by decide +kernel
theorem d_R_apart_44 : decode prog_11_method_136_code 44 = .ok (.ifCond .eq 27, 3) := by decide +kernel
theorem d_R_apart_47 : decode prog_11_method_136_code 47 = .ok (.aload_n 0, 1) := by decide +kernel
theorem d_R_apart_48 : decode prog_11_method_136_code 48 = .ok (.iload 4, 2) := by decide +kernel
theorem d_R_apart_50 : decode prog_11_method_136_code 50 = .ok (.aload_n 0, 1) := by decide +kernel
theorem d_R_apart_51 : decode prog_11_method_136_code 51 = .ok (.getfield 7, 3) := by decide +kernel
theorem d_R_apart_54 : decode prog_11_method_136_code 54 = .ok (.bipush 18, 2) := by decide +kernel
theorem d_R_apart_56 : decode prog_11_method_136_code 56 = .ok (.iload 6, 2) := by decide +kernel
theorem d_R_apart_58 : decode prog_11_method_136_code 58 = .ok (.iadd, 1) := by decide +kernel
theorem d_R_apart_59 : decode prog_11_method_136_code 59 = .ok (.iaload, 1) := by decide +kernel
theorem d_R_apart_60 : decode prog_11_method_136_code 60 = .ok (.invokevirtual 458, 3) := by decide +kernel
theorem d_R_apart_63 : decode prog_11_method_136_code 63 = .ok (.iload_n 2, 1) := by decide +kernel
theorem d_R_apart_64 : decode prog_11_method_136_code 64 = .ok (.if_icmp .lt 7, 3) := by decide +kernel
theorem d_R_apart_67 : decode prog_11_method_136_code 67 = .ok (.iconst 1, 1) := by decide +kernel
theorem d_R_apart_68 : decode prog_11_method_136_code 68 = .ok (.goto 4, 3) := by decide +kernel
theorem d_R_apart_71 : decode prog_11_method_136_code 71 = .ok (.iconst 0, 1) := by decide +kernel
theorem d_R_apart_72 : decode prog_11_method_136_code 72 = .ok (.istore 5, 2) := by decide +kernel
theorem d_R_apart_74 : decode prog_11_method_136_code 74 = .ok (.iinc 6 1, 3) := by decide +kernel
theorem d_R_apart_77 : decode prog_11_method_136_code 77 = .ok (.goto (-46), 3) := by decide +kernel
theorem d_R_apart_80 : decode prog_11_method_136_code 80 = .ok (.iload_n 3, 1) := by decide +kernel
theorem d_R_apart_81 : decode prog_11_method_136_code 81 = .ok (.iload 5, 2) := by decide +kernel
theorem d_R_apart_83 : decode prog_11_method_136_code 83 = .ok (.ifCond .eq 7, 3) := by decide +kernel
theorem d_R_apart_86 : decode prog_11_method_136_code 86 = .ok (.iconst 1, 1) := by decide +kernel
theorem d_R_apart_87 : decode prog_11_method_136_code 87 = .ok (.goto 4, 3) := by decide +kernel
theorem d_R_apart_90 : decode prog_11_method_136_code 90 = .ok (.iconst 0, 1) := by decide +kernel
theorem d_R_apart_91 : decode prog_11_method_136_code 91 = .ok (.iadd, 1) := by decide +kernel
theorem d_R_apart_92 : decode prog_11_method_136_code 92 = .ok (.istore_n 3, 1) := by decide +kernel
theorem d_R_apart_93 : decode prog_11_method_136_code 93 = .ok (.iload 4, 2) := by decide +kernel
theorem d_R_apart_95 : decode prog_11_method_136_code 95 = .ok (.invokestatic 473, 3) := by decide +kernel
theorem d_R_apart_98 : decode prog_11_method_136_code 98 = .ok (.istore 4, 2) := by decide +kernel
theorem d_R_apart_100 : decode prog_11_method_136_code 100 = .ok (.goto (-81), 3) := by decide +kernel
theorem d_R_apart_103 : decode prog_11_method_136_code 103 = .ok (.iload_n 3, 1) := by decide +kernel
theorem d_R_apart_104 : decode prog_11_method_136_code 104 = .ok (.ireturn, 1) := by decide +kernel
theorem d_R_kinds_0 : decode prog_11_method_138_code 0 = .ok (.iload_n 1, 1) := by decide +kernel
theorem d_R_kinds_1 : decode prog_11_method_138_code 1 = .ok (.iconst 0, 1) := by decide +kernel
theorem d_R_kinds_2 : decode prog_11_method_138_code 2 = .ok (.bipush 20, 2) := by decide +kernel
theorem d_R_kinds_4 : decode prog_11_method_138_code 4 = .ok (.invokestatic 89, 3) := by decide +kernel
theorem d_R_kinds_7 : decode prog_11_method_138_code 7 = .ok (.ifCond .ne 7, 3) := by decide +kernel
theorem d_R_kinds_10 : decode prog_11_method_138_code 10 = .ok (.ldc2_w 476, 3) := by decide +kernel
theorem d_R_kinds_13 : decode prog_11_method_138_code 13 = .ok (.lreturn, 1) := by decide +kernel
theorem d_R_kinds_14 : decode prog_11_method_138_code 14 = .ok (.lconst 0, 1) := by decide +kernel
theorem d_R_kinds_15 : decode prog_11_method_138_code 15 = .ok (.lstore_n 2, 1) := by decide +kernel
theorem d_R_kinds_16 : decode prog_11_method_138_code 16 = .ok (.iconst 0, 1) := by decide +kernel
theorem d_R_kinds_17 : decode prog_11_method_138_code 17 = .ok (.istore 4, 2) := by decide +kernel
theorem d_R_kinds_19 : decode prog_11_method_138_code 19 = .ok (.iload 4, 2) := by decide +kernel
theorem d_R_kinds_21 : decode prog_11_method_138_code 21 = .ok (.bipush 8, 2) := by decide +kernel
theorem d_R_kinds_23 : decode prog_11_method_138_code 23 = .ok (.if_icmp .ge 24, 3) := by decide +kernel
theorem d_R_kinds_26 : decode prog_11_method_138_code 26 = .ok (.aload_n 0, 1) := by decide +kernel
theorem d_R_kinds_27 : decode prog_11_method_138_code 27 = .ok (.iload 4, 2) := by decide +kernel
theorem d_R_kinds_29 : decode prog_11_method_138_code 29 = .ok (.invokevirtual 478, 3) := by decide +kernel
theorem d_R_kinds_32 : decode prog_11_method_138_code 32 = .ok (.lload_n 2, 1) := by decide +kernel
theorem d_R_kinds_33 : decode prog_11_method_138_code 33 = .ok (.aload_n 0, 1) := by decide +kernel
theorem d_R_kinds_34 : decode prog_11_method_138_code 34 = .ok (.getfield 68, 3) := by decide +kernel
theorem d_R_kinds_37 : decode prog_11_method_138_code 37 = .ok (.iload_n 1, 1) := by decide +kernel
theorem d_R_kinds_38 : decode prog_11_method_138_code 38 = .ok (.laload, 1) := by decide +kernel
theorem d_R_kinds_39 : decode prog_11_method_138_code 39 = .ok (.ladd, 1) := by decide +kernel
theorem d_R_kinds_40 : decode prog_11_method_138_code 40 = .ok (.lstore_n 2, 1) := by decide +kernel
theorem d_R_kinds_41 : decode prog_11_method_138_code 41 = .ok (.iinc 4 1, 3) := by decide +kernel
theorem d_R_kinds_44 : decode prog_11_method_138_code 44 = .ok (.goto (-25), 3) := by decide +kernel
theorem d_R_kinds_47 : decode prog_11_method_138_code 47 = .ok (.lload_n 2, 1) := by decide +kernel
theorem d_R_kinds_48 : decode prog_11_method_138_code 48 = .ok (.ldc2_w 481, 3) := by decide +kernel
theorem d_R_kinds_51 : decode prog_11_method_138_code 51 = .ok (.ldiv, 1) := by decide +kernel
theorem d_R_kinds_52 : decode prog_11_method_138_code 52 = .ok (.lreturn, 1) := by decide +kernel
theorem d_R_laySets_0 : decode prog_11_method_137_code 0 = .ok (.iconst 0, 1) := by decide +kernel
theorem d_R_laySets_1 : decode prog_11_method_137_code 1 = .ok (.istore_n 2, 1) := by decide +kernel
theorem d_R_laySets_2 : decode prog_11_method_137_code 2 = .ok (.iload_n 2, 1) := by decide +kernel
theorem d_R_laySets_3 : decode prog_11_method_137_code 3 = .ok (.bipush 21, 2) := by decide +kernel
theorem d_R_laySets_5 : decode prog_11_method_137_code 5 = .ok (.if_icmp .ge 24, 3) := by decide +kernel
theorem d_R_laySets_8 : decode prog_11_method_137_code 8 = .ok (.aload_n 0, 1) := by decide +kernel
theorem d_R_laySets_9 : decode prog_11_method_137_code 9 = .ok (.getfield 68, 3) := by decide +kernel
theorem d_R_laySets_12 : decode prog_11_method_137_code 12 = .ok (.iload_n 2, 1) := by decide +kernel
theorem d_R_laySets_13 : decode prog_11_method_137_code 13 = .ok (.iload_n 2, 1) := by decide +kernel
theorem d_R_laySets_14 : decode prog_11_method_137_code 14 = .ok (.ifCond .ne 7, 3) := by decide +kernel
theorem d_R_laySets_17 : decode prog_11_method_137_code 17 = .ok (.lconst 1, 1) := by decide +kernel
theorem d_R_laySets_18 : decode prog_11_method_137_code 18 = .ok (.goto 4, 3) := by decide +kernel
theorem d_R_laySets_21 : decode prog_11_method_137_code 21 = .ok (.lconst 0, 1) := by decide +kernel
theorem d_R_laySets_22 : decode prog_11_method_137_code 22 = .ok (.lastore, 1) := by decide +kernel
theorem d_R_laySets_23 : decode prog_11_method_137_code 23 = .ok (.iinc 2 1, 3) := by decide +kernel
theorem d_R_laySets_26 : decode prog_11_method_137_code 26 = .ok (.goto (-24), 3) := by decide +kernel
theorem d_R_laySets_29 : decode prog_11_method_137_code 29 = .ok (.iconst 0, 1) := by decide +kernel
theorem d_R_laySets_30 : decode prog_11_method_137_code 30 = .ok (.istore_n 2, 1) := by decide +kernel
theorem d_R_laySets_31 : decode prog_11_method_137_code 31 = .ok (.iconst 0, 1) := by decide +kernel
theorem d_R_laySets_32 : decode prog_11_method_137_code 32 = .ok (.istore_n 3, 1) := by decide +kernel
theorem d_R_laySets_33 : decode prog_11_method_137_code 33 = .ok (.iload_n 3, 1) := by decide +kernel
theorem d_R_laySets_34 : decode prog_11_method_137_code 34 = .ok (.bipush 20, 2) := by decide +kernel
theorem d_R_laySets_36 : decode prog_11_method_137_code 36 = .ok (.if_icmp .ge 99, 3) := by decide +kernel
theorem d_R_laySets_39 : decode prog_11_method_137_code 39 = .ok (.iload_n 2, 1) := by decide +kernel
theorem d_R_laySets_40 : decode prog_11_method_137_code 40 = .ok (.iload_n 3, 1) := by decide +kernel
theorem d_R_laySets_41 : decode prog_11_method_137_code 41 = .ok (.invokestatic 94, 3) := by decide +kernel
theorem d_R_laySets_44 : decode prog_11_method_137_code 44 = .ok (.ifCond .eq 6, 3) := by decide +kernel
theorem d_R_laySets_47 : decode prog_11_method_137_code 47 = .ok (.goto 82, 3) := by decide +kernel
theorem d_R_laySets_50 : decode prog_11_method_137_code 50 = .ok (.iconst 0, 1) := by decide +kernel
theorem d_R_laySets_51 : decode prog_11_method_137_code 51 = .ok (.istore 4, 2) := by decide +kernel
theorem d_R_laySets_53 : decode prog_11_method_137_code 53 = .ok (.iload_n 3, 1) := by decide +kernel
theorem d_R_laySets_54 : decode prog_11_method_137_code 54 = .ok (.istore 5, 2) := by decide +kernel
theorem d_R_laySets_56 : decode prog_11_method_137_code 56 = .ok (.iload_n 2, 1) := by decide +kernel
theorem d_R_laySets_57 : decode prog_11_method_137_code 57 = .ok (.iload 5, 2) := by decide +kernel
theorem d_R_laySets_59 : decode prog_11_method_137_code 59 = .ok (.invokestatic 94, 3) := by decide +kernel
theorem d_R_laySets_62 : decode prog_11_method_137_code 62 = .ok (.ifCond .ne 30, 3) := by decide +kernel
theorem d_R_laySets_65 : decode prog_11_method_137_code 65 = .ok (.iload_n 2, 1) := by decide +kernel
theorem d_R_laySets_66 : decode prog_11_method_137_code 66 = .ok (.iconst 1, 1) := by decide +kernel
theorem d_R_laySets_67 : decode prog_11_method_137_code 67 = .ok (.iload 5, 2) := by decide +kernel
theorem d_R_laySets_69 : decode prog_11_method_137_code 69 = .ok (.ishl, 1) := by decide +kernel
theorem d_R_laySets_70 : decode prog_11_method_137_code 70 = .ok (.ior, 1) := by decide +kernel
theorem d_R_laySets_71 : decode prog_11_method_137_code 71 = .ok (.istore_n 2, 1) := by decide +kernel
theorem d_R_laySets_72 : decode prog_11_method_137_code 72 = .ok (.iinc 4 1, 3) := by decide +kernel
theorem d_R_laySets_75 : decode prog_11_method_137_code 75 = .ok (.aload_n 0, 1) := by decide +kernel
theorem d_R_laySets_76 : decode prog_11_method_137_code 76 = .ok (.getfield 22, 3) := by decide +kernel
theorem d_R_laySets_79 : decode prog_11_method_137_code 79 = .ok (.bipush 20, 2) := by decide +kernel
theorem d_R_laySets_81 : decode prog_11_method_137_code 81 = .ok (.iload_n 1, 1) := by decide +kernel
theorem d_R_laySets_82 : decode prog_11_method_137_code 82 = .ok (.imul, 1) := by decide +kernel
theorem d_R_laySets_83 : decode prog_11_method_137_code 83 = .ok (.iload 5, 2) := by decide +kernel
theorem d_R_laySets_85 : decode prog_11_method_137_code 85 = .ok (.iadd, 1) := by decide +kernel
theorem d_R_laySets_86 : decode prog_11_method_137_code 86 = .ok (.iaload, 1) := by decide +kernel
theorem d_R_laySets_87 : decode prog_11_method_137_code 87 = .ok (.istore 5, 2) := by decide +kernel
theorem d_R_laySets_89 : decode prog_11_method_137_code 89 = .ok (.goto (-33), 3) := by decide +kernel
theorem d_R_laySets_92 : decode prog_11_method_137_code 92 = .ok (.bipush 20, 2) := by decide +kernel
theorem d_R_laySets_94 : decode prog_11_method_137_code 94 = .ok (.istore 5, 2) := by decide +kernel
theorem d_R_laySets_96 : decode prog_11_method_137_code 96 = .ok (.iload 5, 2) := by decide +kernel
theorem d_R_laySets_98 : decode prog_11_method_137_code 98 = .ok (.iload 4, 2) := by decide +kernel
theorem d_R_laySets_100 : decode prog_11_method_137_code 100 = .ok (.if_icmp .lt 29, 3) := by decide +kernel
theorem d_R_laySets_103 : decode prog_11_method_137_code 103 = .ok (.aload_n 0, 1) := by decide +kernel
theorem d_R_laySets_104 : decode prog_11_method_137_code 104 = .ok (.getfield 68, 3) := by decide +kernel
theorem d_R_laySets_107 : decode prog_11_method_137_code 107 = .ok (.iload 5, 2) := by decide +kernel
theorem d_R_laySets_109 : decode prog_11_method_137_code 109 = .ok (.dup2, 1) := by decide +kernel
theorem d_R_laySets_110 : decode prog_11_method_137_code 110 = .ok (.laload, 1) := by decide +kernel
theorem d_R_laySets_111 : decode prog_11_method_137_code 111 = .ok (.aload_n 0, 1) := by decide +kernel
theorem d_R_laySets_112 : decode prog_11_method_137_code 112 = .ok (.getfield 68, 3) := by decide +kernel
theorem d_R_laySets_115 : decode prog_11_method_137_code 115 = .ok (.iload 5, 2) := by decide +kernel
theorem d_R_laySets_117 : decode prog_11_method_137_code 117 = .ok (.iload 4, 2) := by decide +kernel
theorem d_R_laySets_119 : decode prog_11_method_137_code 119 = .ok (.isub, 1) := by decide +kernel
theorem d_R_laySets_120 : decode prog_11_method_137_code 120 = .ok (.laload, 1) := by decide +kernel
theorem d_R_laySets_121 : decode prog_11_method_137_code 121 = .ok (.ladd, 1) := by decide +kernel
theorem d_R_laySets_122 : decode prog_11_method_137_code 122 = .ok (.lastore, 1) := by decide +kernel
theorem d_R_laySets_123 : decode prog_11_method_137_code 123 = .ok (.iinc 5 (-1), 3) := by decide +kernel
theorem d_R_laySets_126 : decode prog_11_method_137_code 126 = .ok (.goto (-30), 3) := by decide +kernel
theorem d_R_laySets_129 : decode prog_11_method_137_code 129 = .ok (.iinc 3 1, 3) := by decide +kernel
theorem d_R_laySets_132 : decode prog_11_method_137_code 132 = .ok (.goto (-99), 3) := by decide +kernel
theorem d_R_laySets_135 : decode prog_11_method_137_code 135 = .ok (.return_, 1) := by decide +kernel
theorem d_R_witness_0 : decode prog_11_method_139_code 0 = .ok (.iload_n 1, 1) := by decide +kernel
theorem d_R_witness_1 : decode prog_11_method_139_code 1 = .ok (.iconst (-1), 1) := by decide +kernel
theorem d_R_witness_2 : decode prog_11_method_139_code 2 = .ok (.if_icmp .ne 28, 3) := by decide +kernel
theorem d_R_witness_5 : decode prog_11_method_139_code 5 = .ok (.aload_n 0, 1) := by decide +kernel
theorem d_R_witness_6 : decode prog_11_method_139_code 6 = .ok (.getfield 7, 3) := by decide +kernel
theorem d_R_witness_9 : decode prog_11_method_139_code 9 = .ok (.iconst 4, 1) := by decide +kernel
theorem d_R_witness_10 : decode prog_11_method_139_code 10 = .ok (.iconst 0, 1) := by decide +kernel
theorem d_R_witness_11 : decode prog_11_method_139_code 11 = .ok (.iastore, 1) := by decide +kernel
theorem d_R_witness_12 : decode prog_11_method_139_code 12 = .ok (.aload_n 0, 1) := by decide +kernel
theorem d_R_witness_13 : decode prog_11_method_139_code 13 = .ok (.getfield 7, 3) := by decide +kernel
theorem d_R_witness_16 : decode prog_11_method_139_code 16 = .ok (.bipush 26, 2) := by decide +kernel
theorem d_R_witness_18 : decode prog_11_method_139_code 18 = .ok (.iconst 0, 1) := by decide +kernel
theorem d_R_witness_19 : decode prog_11_method_139_code 19 = .ok (.iastore, 1) := by decide +kernel
theorem d_R_witness_20 : decode prog_11_method_139_code 20 = .ok (.aload_n 0, 1) := by decide +kernel
theorem d_R_witness_21 : decode prog_11_method_139_code 21 = .ok (.getfield 7, 3) := by decide +kernel
theorem d_R_witness_24 : decode prog_11_method_139_code 24 = .ok (.bipush 27, 2) := by decide +kernel
theorem d_R_witness_26 : decode prog_11_method_139_code 26 = .ok (.iconst 0, 1) := by decide +kernel
theorem d_R_witness_27 : decode prog_11_method_139_code 27 = .ok (.iastore, 1) := by decide +kernel
theorem d_R_witness_28 : decode prog_11_method_139_code 28 = .ok (.iconst 0, 1) := by decide +kernel
theorem d_R_witness_29 : decode prog_11_method_139_code 29 = .ok (.ireturn, 1) := by decide +kernel
theorem d_R_witness_30 : decode prog_11_method_139_code 30 = .ok (.iload_n 1, 1) := by decide +kernel
theorem d_R_witness_31 : decode prog_11_method_139_code 31 = .ok (.invokestatic 382, 3) := by decide +kernel
theorem d_R_witness_34 : decode prog_11_method_139_code 34 = .ok (.ifCond .eq 25, 3) := by decide +kernel
theorem d_R_witness_37 : decode prog_11_method_139_code 37 = .ok (.aload_n 0, 1) := by decide +kernel
theorem d_R_witness_38 : decode prog_11_method_139_code 38 = .ok (.getfield 7, 3) := by decide +kernel
theorem d_R_witness_41 : decode prog_11_method_139_code 41 = .ok (.bipush 26, 2) := by decide +kernel
theorem d_R_witness_43 : decode prog_11_method_139_code 43 = .ok (.iaload, 1) := by decide +kernel
theorem d_R_witness_44 : decode prog_11_method_139_code 44 = .ok (.aload_n 0, 1) := by decide +kernel
theorem d_R_witness_45 : decode prog_11_method_139_code 45 = .ok (.getfield 7, 3) := by decide +kernel
theorem d_R_witness_48 : decode prog_11_method_139_code 48 = .ok (.bipush 27, 2) := by decide +kernel
theorem d_R_witness_50 : decode prog_11_method_139_code 50 = .ok (.iaload, 1) := by decide +kernel
theorem d_R_witness_51 : decode prog_11_method_139_code 51 = .ok (.ior, 1) := by decide +kernel
theorem d_R_witness_52 : decode prog_11_method_139_code 52 = .ok (.iload_n 1, 1) := by decide +kernel
theorem d_R_witness_53 : decode prog_11_method_139_code 53 = .ok (.invokestatic 94, 3) := by decide +kernel
theorem d_R_witness_56 : decode prog_11_method_139_code 56 = .ok (.ifCond .eq 6, 3) := by decide +kernel
theorem d_R_witness_59 : decode prog_11_method_139_code 59 = .ok (.bipush (-2), 2) := by decide +kernel
theorem d_R_witness_61 : decode prog_11_method_139_code 61 = .ok (.ireturn, 1) := by decide +kernel
theorem d_R_witness_62 : decode prog_11_method_139_code 62 = .ok (.aload_n 0, 1) := by decide +kernel
theorem d_R_witness_63 : decode prog_11_method_139_code 63 = .ok (.getfield 7, 3) := by decide +kernel
theorem d_R_witness_66 : decode prog_11_method_139_code 66 = .ok (.iload_n 2, 1) := by decide +kernel
theorem d_R_witness_67 : decode prog_11_method_139_code 67 = .ok (.ifCond .eq 8, 3) := by decide +kernel
theorem d_R_witness_70 : decode prog_11_method_139_code 70 = .ok (.bipush 26, 2) := by decide +kernel
theorem d_R_witness_72 : decode prog_11_method_139_code 72 = .ok (.goto 5, 3) := by decide +kernel
theorem d_R_witness_75 : decode prog_11_method_139_code 75 = .ok (.bipush 27, 2) := by decide +kernel
theorem d_R_witness_77 : decode prog_11_method_139_code 77 = .ok (.dup2, 1) := by decide +kernel
theorem d_R_witness_78 : decode prog_11_method_139_code 78 = .ok (.iaload, 1) := by decide +kernel
theorem d_R_witness_79 : decode prog_11_method_139_code 79 = .ok (.iconst 1, 1) := by decide +kernel
theorem d_R_witness_80 : decode prog_11_method_139_code 80 = .ok (.iload_n 1, 1) := by decide +kernel
theorem d_R_witness_81 : decode prog_11_method_139_code 81 = .ok (.ishl, 1) := by decide +kernel
theorem d_R_witness_82 : decode prog_11_method_139_code 82 = .ok (.ior, 1) := by decide +kernel
theorem d_R_witness_83 : decode prog_11_method_139_code 83 = .ok (.iastore, 1) := by decide +kernel
theorem d_R_witness_84 : decode prog_11_method_139_code 84 = .ok (.aload_n 0, 1) := by decide +kernel
theorem d_R_witness_85 : decode prog_11_method_139_code 85 = .ok (.getfield 7, 3) := by decide +kernel
theorem d_R_witness_88 : decode prog_11_method_139_code 88 = .ok (.iconst 4, 1) := by decide +kernel
theorem d_R_witness_89 : decode prog_11_method_139_code 89 = .ok (.dup2, 1) := by decide +kernel
theorem d_R_witness_90 : decode prog_11_method_139_code 90 = .ok (.iaload, 1) := by decide +kernel
theorem d_R_witness_91 : decode prog_11_method_139_code 91 = .ok (.iconst 1, 1) := by decide +kernel
theorem d_R_witness_92 : decode prog_11_method_139_code 92 = .ok (.iadd, 1) := by decide +kernel
theorem d_R_witness_93 : decode prog_11_method_139_code 93 = .ok (.iastore, 1) := by decide +kernel
theorem d_R_witness_94 : decode prog_11_method_139_code 94 = .ok (.aload_n 0, 1) := by decide +kernel
theorem d_R_witness_95 : decode prog_11_method_139_code 95 = .ok (.getfield 7, 3) := by decide +kernel
theorem d_R_witness_98 : decode prog_11_method_139_code 98 = .ok (.iconst 4, 1) := by decide +kernel
theorem d_R_witness_99 : decode prog_11_method_139_code 99 = .ok (.iaload, 1) := by decide +kernel
theorem d_R_witness_100 : decode prog_11_method_139_code 100 = .ok (.ireturn, 1) := by decide +kernel
theorem d_R_ways_0 : decode prog_11_method_142_code 0 = .ok (.aload_n 0, 1) := by decide +kernel
theorem d_R_ways_1 : decode prog_11_method_142_code 1 = .ok (.iload_n 1, 1) := by decide +kernel
theorem d_R_ways_2 : decode prog_11_method_142_code 2 = .ok (.invokevirtual 379, 3) := by decide +kernel
theorem d_R_ways_5 : decode prog_11_method_142_code 5 = .ok (.ifCond .eq 11, 3) := by decide +kernel
theorem d_R_ways_8 : decode prog_11_method_142_code 8 = .ok (.aload_n 0, 1) := by decide +kernel
theorem d_R_ways_9 : decode prog_11_method_142_code 9 = .ok (.iload_n 1, 1) := by decide +kernel
theorem d_R_ways_10 : decode prog_11_method_142_code 10 = .ok (.invokevirtual 486, 3) := by decide +kernel
theorem d_R_ways_13 : decode prog_11_method_142_code 13 = .ok (.goto 4, 3) := by decide +kernel
theorem d_R_ways_16 : decode prog_11_method_142_code 16 = .ok (.iconst (-1), 1) := by decide +kernel
theorem d_R_ways_17 : decode prog_11_method_142_code 17 = .ok (.ireturn, 1) := by decide +kernel
theorem d_R_waysOf_0 : decode prog_11_method_141_code 0 = .ok (.iconst 0, 1) := by decide +kernel
theorem d_R_waysOf_1 : decode prog_11_method_141_code 1 = .ok (.istore_n 2, 1) := by decide +kernel
theorem d_R_waysOf_2 : decode prog_11_method_141_code 2 = .ok (.iconst 0, 1) := by decide +kernel
theorem d_R_waysOf_3 : decode prog_11_method_141_code 3 = .ok (.istore_n 3, 1) := by decide +kernel
theorem d_R_waysOf_4 : decode prog_11_method_141_code 4 = .ok (.iload_n 3, 1) := by decide +kernel
theorem d_R_waysOf_5 : decode prog_11_method_141_code 5 = .ok (.bipush 8, 2) := by decide +kernel
theorem d_R_waysOf_7 : decode prog_11_method_141_code 7 = .ok (.if_icmp .ge 40, 3) := by decide +kernel
theorem d_R_waysOf_10 : decode prog_11_method_141_code 10 = .ok (.iload_n 2, 1) := by decide +kernel
theorem d_R_waysOf_11 : decode prog_11_method_141_code 11 = .ok (.aload_n 0, 1) := by decide +kernel
theorem d_R_waysOf_12 : decode prog_11_method_141_code 12 = .ok (.aload_n 0, 1) := by decide +kernel
theorem d_R_waysOf_13 : decode prog_11_method_141_code 13 = .ok (.aload_n 0, 1) := by decide +kernel
theorem d_R_waysOf_14 : decode prog_11_method_141_code 14 = .ok (.getfield 7, 3) := by decide +kernel
theorem d_R_waysOf_17 : decode prog_11_method_141_code 17 = .ok (.bipush 10, 2) := by decide +kernel
theorem d_R_waysOf_19 : decode prog_11_method_141_code 19 = .ok (.iload_n 1, 1) := by decide +kernel
theorem d_R_waysOf_20 : decode prog_11_method_141_code 20 = .ok (.iadd, 1) := by decide +kernel
theorem d_R_waysOf_21 : decode prog_11_method_141_code 21 = .ok (.iaload, 1) := by decide +kernel
theorem d_R_waysOf_22 : decode prog_11_method_141_code 22 = .ok (.iload_n 3, 1) := by decide +kernel
theorem d_R_waysOf_23 : decode prog_11_method_141_code 23 = .ok (.invokevirtual 105, 3) := by decide +kernel
theorem d_R_waysOf_26 : decode prog_11_method_141_code 26 = .ok (.invokevirtual 483, 3) := by decide +kernel
theorem d_R_waysOf_29 : decode prog_11_method_141_code 29 = .ok (.ifCond .eq 9, 3) := by decide +kernel
theorem d_R_waysOf_32 : decode prog_11_method_141_code 32 = .ok (.iconst 1, 1) := by decide +kernel
theorem d_R_waysOf_33 : decode prog_11_method_141_code 33 = .ok (.iload_n 3, 1) := by decide +kernel
theorem d_R_waysOf_34 : decode prog_11_method_141_code 34 = .ok (.ishl, 1) := by decide +kernel
theorem d_R_waysOf_35 : decode prog_11_method_141_code 35 = .ok (.goto 4, 3) := by decide +kernel
theorem d_R_waysOf_38 : decode prog_11_method_141_code 38 = .ok (.iconst 0, 1) := by decide +kernel
theorem d_R_waysOf_39 : decode prog_11_method_141_code 39 = .ok (.ior, 1) := by decide +kernel
theorem d_R_waysOf_40 : decode prog_11_method_141_code 40 = .ok (.istore_n 2, 1) := by decide +kernel
theorem d_R_waysOf_41 : decode prog_11_method_141_code 41 = .ok (.iinc 3 1, 3) := by decide +kernel
theorem d_R_waysOf_44 : decode prog_11_method_141_code 44 = .ok (.goto (-40), 3) := by decide +kernel
theorem d_R_waysOf_47 : decode prog_11_method_141_code 47 = .ok (.iload_n 2, 1) := by decide +kernel
theorem d_R_waysOf_48 : decode prog_11_method_141_code 48 = .ok (.ireturn, 1) := by decide +kernel
theorem d_R_isSeen_0 : decode prog_11_method_140_code 0 = .ok (.aload_n 0, 1) := by decide +kernel
theorem d_R_isSeen_1 : decode prog_11_method_140_code 1 = .ok (.getfield 7, 3) := by decide +kernel
theorem d_R_isSeen_4 : decode prog_11_method_140_code 4 = .ok (.bipush 26, 2) := by decide +kernel
theorem d_R_isSeen_6 : decode prog_11_method_140_code 6 = .ok (.iaload, 1) := by decide +kernel
theorem d_R_isSeen_7 : decode prog_11_method_140_code 7 = .ok (.iload_n 1, 1) := by decide +kernel
theorem d_R_isSeen_8 : decode prog_11_method_140_code 8 = .ok (.iconst (-1), 1) := by decide +kernel
theorem d_R_isSeen_9 : decode prog_11_method_140_code 9 = .ok (.ixor, 1) := by decide +kernel
theorem d_R_isSeen_10 : decode prog_11_method_140_code 10 = .ok (.iand, 1) := by decide +kernel
theorem d_R_isSeen_11 : decode prog_11_method_140_code 11 = .ok (.ifCond .ne 19, 3) := by decide +kernel
theorem d_R_isSeen_14 : decode prog_11_method_140_code 14 = .ok (.aload_n 0, 1) := by decide +kernel
theorem d_R_isSeen_15 : decode prog_11_method_140_code 15 = .ok (.getfield 7, 3) := by decide +kernel
theorem d_R_isSeen_18 : decode prog_11_method_140_code 18 = .ok (.bipush 27, 2) := by decide +kernel
theorem d_R_isSeen_20 : decode prog_11_method_140_code 20 = .ok (.iaload, 1) := by decide +kernel
theorem d_R_isSeen_21 : decode prog_11_method_140_code 21 = .ok (.iload_n 1, 1) := by decide +kernel
theorem d_R_isSeen_22 : decode prog_11_method_140_code 22 = .ok (.iand, 1) := by decide +kernel
theorem d_R_isSeen_23 : decode prog_11_method_140_code 23 = .ok (.ifCond .ne 7, 3) := by decide +kernel
theorem d_R_isSeen_26 : decode prog_11_method_140_code 26 = .ok (.iconst 1, 1) := by decide +kernel
theorem d_R_isSeen_27 : decode prog_11_method_140_code 27 = .ok (.goto 4, 3) := by decide +kernel
theorem d_R_isSeen_30 : decode prog_11_method_140_code 30 = .ok (.iconst 0, 1) := by decide +kernel
theorem d_R_isSeen_31 : decode prog_11_method_140_code 31 = .ok (.ireturn, 1) := by decide +kernel
theorem d_R_which_0 : decode prog_11_method_143_code 0 = .ok (.iconst 0, 1) := by decide +kernel
theorem d_R_which_1 : decode prog_11_method_143_code 1 = .ok (.istore_n 1, 1) := by decide +kernel
theorem d_R_which_2 : decode prog_11_method_143_code 2 = .ok (.iconst 0, 1) := by decide +kernel
theorem d_R_which_3 : decode prog_11_method_143_code 3 = .ok (.istore_n 2, 1) := by decide +kernel
theorem d_R_which_4 : decode prog_11_method_143_code 4 = .ok (.iload_n 2, 1) := by decide +kernel
theorem d_R_which_5 : decode prog_11_method_143_code 5 = .ok (.aload_n 0, 1) := by decide +kernel
theorem d_R_which_6 : decode prog_11_method_143_code 6 = .ok (.getfield 7, 3) := by decide +kernel
theorem d_R_which_9 : decode prog_11_method_143_code 9 = .ok (.iconst 0, 1) := by decide +kernel
theorem d_R_which_10 : decode prog_11_method_143_code 10 = .ok (.iaload, 1) := by decide +kernel
theorem d_R_which_11 : decode prog_11_method_143_code 11 = .ok (.if_icmp .ge 27, 3) := by decide +kernel
theorem d_R_which_14 : decode prog_11_method_143_code 14 = .ok (.iload_n 1, 1) := by decide +kernel
theorem d_R_which_15 : decode prog_11_method_143_code 15 = .ok (.aload_n 0, 1) := by decide +kernel
theorem d_R_which_16 : decode prog_11_method_143_code 16 = .ok (.iload_n 2, 1) := by decide +kernel
theorem d_R_which_17 : decode prog_11_method_143_code 17 = .ok (.invokevirtual 486, 3) := by decide +kernel
theorem d_R_which_20 : decode prog_11_method_143_code 20 = .ok (.ifCond .eq 9, 3) := by decide +kernel
theorem d_R_which_23 : decode prog_11_method_143_code 23 = .ok (.iconst 1, 1) := by decide +kernel
theorem d_R_which_24 : decode prog_11_method_143_code 24 = .ok (.iload_n 2, 1) := by decide +kernel
theorem d_R_which_25 : decode prog_11_method_143_code 25 = .ok (.ishl, 1) := by decide +kernel
theorem d_R_which_26 : decode prog_11_method_143_code 26 = .ok (.goto 4, 3) := by decide +kernel
theorem d_R_which_29 : decode prog_11_method_143_code 29 = .ok (.iconst 0, 1) := by decide +kernel
theorem d_R_which_30 : decode prog_11_method_143_code 30 = .ok (.ior, 1) := by decide +kernel
theorem d_R_which_31 : decode prog_11_method_143_code 31 = .ok (.istore_n 1, 1) := by decide +kernel
theorem d_R_which_32 : decode prog_11_method_143_code 32 = .ok (.iinc 2 1, 3) := by decide +kernel
theorem d_R_which_35 : decode prog_11_method_143_code 35 = .ok (.goto (-31), 3) := by decide +kernel
theorem d_R_which_38 : decode prog_11_method_143_code 38 = .ok (.iload_n 1, 1) := by decide +kernel
theorem d_R_which_39 : decode prog_11_method_143_code 39 = .ok (.ireturn, 1) := by decide +kernel
theorem d_R_ask_0 : decode prog_11_method_145_code 0 = .ok (.aload_n 0, 1) := by decide +kernel
theorem d_R_ask_1 : decode prog_11_method_145_code 1 = .ok (.invokevirtual 489, 3) := by decide +kernel
theorem d_R_ask_4 : decode prog_11_method_145_code 4 = .ok (.invokestatic 121, 3) := by decide +kernel
theorem d_R_ask_7 : decode prog_11_method_145_code 7 = .ok (.iconst 2, 1) := by decide +kernel
theorem d_R_ask_8 : decode prog_11_method_145_code 8 = .ok (.if_icmp .ge 5, 3) := by decide +kernel
theorem d_R_ask_11 : decode prog_11_method_145_code 11 = .ok (.iconst (-1), 1) := by decide +kernel
theorem d_R_ask_12 : decode prog_11_method_145_code 12 = .ok (.ireturn, 1) := by decide +kernel
theorem d_R_ask_13 : decode prog_11_method_145_code 13 = .ok (.iconst (-1), 1) := by decide +kernel
theorem d_R_ask_14 : decode prog_11_method_145_code 14 = .ok (.istore_n 1, 1) := by decide +kernel
theorem d_R_ask_15 : decode prog_11_method_145_code 15 = .ok (.ldc_w 492, 3) := by decide +kernel
theorem d_R_ask_18 : decode prog_11_method_145_code 18 = .ok (.istore_n 2, 1) := by decide +kernel
theorem d_R_ask_19 : decode prog_11_method_145_code 19 = .ok (.iconst 0, 1) := by decide +kernel
theorem d_R_ask_20 : decode prog_11_method_145_code 20 = .ok (.istore_n 3, 1) := by decide +kernel
theorem d_R_ask_21 : decode prog_11_method_145_code 21 = .ok (.iload_n 3, 1) := by decide +kernel
theorem d_R_ask_22 : decode prog_11_method_145_code 22 = .ok (.bipush 20, 2) := by decide +kernel
theorem d_R_ask_24 : decode prog_11_method_145_code 24 = .ok (.if_icmp .ge 51, 3) := by decide +kernel
theorem d_R_ask_27 : decode prog_11_method_145_code 27 = .ok (.aload_n 0, 1) := by decide +kernel
theorem d_R_ask_28 : decode prog_11_method_145_code 28 = .ok (.getfield 7, 3) := by decide +kernel
theorem d_R_ask_31 : decode prog_11_method_145_code 31 = .ok (.bipush 26, 2) := by decide +kernel
theorem d_R_ask_33 : decode prog_11_method_145_code 33 = .ok (.iaload, 1) := by decide +kernel
theorem d_R_ask_34 : decode prog_11_method_145_code 34 = .ok (.aload_n 0, 1) := by decide +kernel
theorem d_R_ask_35 : decode prog_11_method_145_code 35 = .ok (.getfield 7, 3) := by decide +kernel
theorem d_R_ask_38 : decode prog_11_method_145_code 38 = .ok (.bipush 27, 2) := by decide +kernel
theorem d_R_ask_40 : decode prog_11_method_145_code 40 = .ok (.iaload, 1) := by decide +kernel
theorem d_R_ask_41 : decode prog_11_method_145_code 41 = .ok (.ior, 1) := by decide +kernel
theorem d_R_ask_42 : decode prog_11_method_145_code 42 = .ok (.iload_n 3, 1) := by decide +kernel
theorem d_R_ask_43 : decode prog_11_method_145_code 43 = .ok (.invokestatic 94, 3) := by decide +kernel
theorem d_R_ask_46 : decode prog_11_method_145_code 46 = .ok (.ifCond .ne 23, 3) := by decide +kernel
theorem d_R_ask_49 : decode prog_11_method_145_code 49 = .ok (.aload_n 0, 1) := by decide +kernel
theorem d_R_ask_50 : decode prog_11_method_145_code 50 = .ok (.iload_n 3, 1) := by decide +kernel
theorem d_R_ask_51 : decode prog_11_method_145_code 51 = .ok (.invokevirtual 493, 3) := by decide +kernel
theorem d_R_ask_54 : decode prog_11_method_145_code 54 = .ok (.iload_n 2, 1) := by decide +kernel
theorem d_R_ask_55 : decode prog_11_method_145_code 55 = .ok (.if_icmp .lt 6, 3) := by decide +kernel
theorem d_R_ask_58 : decode prog_11_method_145_code 58 = .ok (.goto 11, 3) := by decide +kernel
theorem d_R_ask_61 : decode prog_11_method_145_code 61 = .ok (.aload_n 0, 1) := by decide +kernel
theorem d_R_ask_62 : decode prog_11_method_145_code 62 = .ok (.iload_n 3, 1) := by decide +kernel
theorem d_R_ask_63 : decode prog_11_method_145_code 63 = .ok (.invokevirtual 493, 3) := by decide +kernel
theorem d_R_ask_66 : decode prog_11_method_145_code 66 = .ok (.istore_n 2, 1) := by decide +kernel
theorem d_R_ask_67 : decode prog_11_method_145_code 67 = .ok (.iload_n 3, 1) := by decide +kernel
theorem d_R_ask_68 : decode prog_11_method_145_code 68 = .ok (.istore_n 1, 1) := by decide +kernel
theorem d_R_ask_69 : decode prog_11_method_145_code 69 = .ok (.iinc 3 1, 3) := by decide +kernel
theorem d_R_ask_72 : decode prog_11_method_145_code 72 = .ok (.goto (-51), 3) := by decide +kernel
theorem d_R_ask_75 : decode prog_11_method_145_code 75 = .ok (.iload_n 1, 1) := by decide +kernel
theorem d_R_ask_76 : decode prog_11_method_145_code 76 = .ok (.ireturn, 1) := by decide +kernel
theorem d_R_greaterPart_0 : decode prog_11_method_144_code 0 = .ok (.iconst 0, 1) := by decide +kernel
theorem d_R_greaterPart_1 : decode prog_11_method_144_code 1 = .ok (.istore_n 2, 1) := by decide +kernel
theorem d_R_greaterPart_2 : decode prog_11_method_144_code 2 = .ok (.iconst 0, 1) := by decide +kernel
theorem d_R_greaterPart_3 : decode prog_11_method_144_code 3 = .ok (.istore_n 3, 1) := by decide +kernel
theorem d_R_greaterPart_4 : decode prog_11_method_144_code 4 = .ok (.iconst 0, 1) := by decide +kernel
theorem d_R_greaterPart_5 : decode prog_11_method_144_code 5 = .ok (.istore 4, 2) := by decide +kernel
theorem d_R_greaterPart_7 : decode prog_11_method_144_code 7 = .ok (.iload 4, 2) := by decide +kernel
theorem d_R_greaterPart_9 : decode prog_11_method_144_code 9 = .ok (.aload_n 0, 1) := by decide +kernel
theorem d_R_greaterPart_10 : decode prog_11_method_144_code 10 = .ok (.getfield 7, 3) := by decide +kernel
theorem d_R_greaterPart_13 : decode prog_11_method_144_code 13 = .ok (.iconst 0, 1) := by decide +kernel
theorem d_R_greaterPart_14 : decode prog_11_method_144_code 14 = .ok (.iaload, 1) := by decide +kernel
theorem d_R_greaterPart_15 : decode prog_11_method_144_code 15 = .ok (.if_icmp .ge 89, 3) := by decide +kernel
theorem d_R_greaterPart_18 : decode prog_11_method_144_code 18 = .ok (.iconst 0, 1) := by decide +kernel
theorem d_R_greaterPart_19 : decode prog_11_method_144_code 19 = .ok (.istore 5, 2) := by decide +kernel
theorem d_R_greaterPart_21 : decode prog_11_method_144_code 21 = .ok (.iload 5, 2) := by decide +kernel
theorem d_R_greaterPart_23 : decode prog_11_method_144_code 23 = .ok (.bipush 8, 2) := by decide +kernel
theorem d_R_greaterPart_25 : decode prog_11_method_144_code 25 = .ok (.if_icmp .ge 73, 3) := by decide +kernel
theorem d_R_greaterPart_28 : decode prog_11_method_144_code 28 = .ok (.aload_n 0, 1) := by decide +kernel
theorem d_R_greaterPart_29 : decode prog_11_method_144_code 29 = .ok (.aload_n 0, 1) := by decide +kernel
theorem d_R_greaterPart_30 : decode prog_11_method_144_code 30 = .ok (.getfield 7, 3) := by decide +kernel
theorem d_R_greaterPart_33 : decode prog_11_method_144_code 33 = .ok (.bipush 10, 2) := by decide +kernel
theorem d_R_greaterPart_35 : decode prog_11_method_144_code 35 = .ok (.iload 4, 2) := by decide +kernel
theorem d_R_greaterPart_37 : decode prog_11_method_144_code 37 = .ok (.iadd, 1) := by decide +kernel
theorem d_R_greaterPart_38 : decode prog_11_method_144_code 38 = .ok (.iaload, 1) := by decide +kernel
theorem d_R_greaterPart_39 : decode prog_11_method_144_code 39 = .ok (.iload 5, 2) := by decide +kernel
theorem d_R_greaterPart_41 : decode prog_11_method_144_code 41 = .ok (.invokevirtual 105, 3) := by decide +kernel
theorem d_R_greaterPart_44 : decode prog_11_method_144_code 44 = .ok (.istore 6, 2) := by decide +kernel
theorem d_R_greaterPart_46 : decode prog_11_method_144_code 46 = .ok (.aload_n 0, 1) := by decide +kernel
theorem d_R_greaterPart_47 : decode prog_11_method_144_code 47 = .ok (.iload 6, 2) := by decide +kernel
theorem d_R_greaterPart_49 : decode prog_11_method_144_code 49 = .ok (.invokevirtual 483, 3) := by decide +kernel
theorem d_R_greaterPart_52 : decode prog_11_method_144_code 52 = .ok (.ifCond .ne 6, 3) := by decide +kernel
theorem d_R_greaterPart_55 : decode prog_11_method_144_code 55 = .ok (.goto 37, 3) := by decide +kernel
theorem d_R_greaterPart_58 : decode prog_11_method_144_code 58 = .ok (.iload_n 2, 1) := by decide +kernel
theorem d_R_greaterPart_59 : decode prog_11_method_144_code 59 = .ok (.iload 6, 2) := by decide +kernel
theorem d_R_greaterPart_61 : decode prog_11_method_144_code 61 = .ok (.iload_n 1, 1) := by decide +kernel
theorem d_R_greaterPart_62 : decode prog_11_method_144_code 62 = .ok (.invokestatic 94, 3) := by decide +kernel
theorem d_R_greaterPart_65 : decode prog_11_method_144_code 65 = .ok (.ifCond .eq 7, 3) := by decide +kernel
theorem d_R_greaterPart_68 : decode prog_11_method_144_code 68 = .ok (.iconst 1, 1) := by decide +kernel
theorem d_R_greaterPart_69 : decode prog_11_method_144_code 69 = .ok (.goto 4, 3) := by decide +kernel
theorem d_R_greaterPart_72 : decode prog_11_method_144_code 72 = .ok (.iconst 0, 1) := by decide +kernel
theorem d_R_greaterPart_73 : decode prog_11_method_144_code 73 = .ok (.iadd, 1) := by decide +kernel
theorem d_R_greaterPart_74 : decode prog_11_method_144_code 74 = .ok (.istore_n 2, 1) := by decide +kernel
theorem d_R_greaterPart_75 : decode prog_11_method_144_code 75 = .ok (.iload_n 3, 1) := by decide +kernel
theorem d_R_greaterPart_76 : decode prog_11_method_144_code 76 = .ok (.iload 6, 2) := by decide +kernel
theorem d_R_greaterPart_78 : decode prog_11_method_144_code 78 = .ok (.iload_n 1, 1) := by decide +kernel
theorem d_R_greaterPart_79 : decode prog_11_method_144_code 79 = .ok (.invokestatic 94, 3) := by decide +kernel
theorem d_R_greaterPart_82 : decode prog_11_method_144_code 82 = .ok (.ifCond .eq 7, 3) := by decide +kernel
theorem d_R_greaterPart_85 : decode prog_11_method_144_code 85 = .ok (.iconst 0, 1) := by decide +kernel
theorem d_R_greaterPart_86 : decode prog_11_method_144_code 86 = .ok (.goto 4, 3) := by decide +kernel
theorem d_R_greaterPart_89 : decode prog_11_method_144_code 89 = .ok (.iconst 1, 1) := by decide +kernel
theorem d_R_greaterPart_90 : decode prog_11_method_144_code 90 = .ok (.iadd, 1) := by decide +kernel
theorem d_R_greaterPart_91 : decode prog_11_method_144_code 91 = .ok (.istore_n 3, 1) := by decide +kernel
theorem d_R_greaterPart_92 : decode prog_11_method_144_code 92 = .ok (.iinc 5 1, 3) := by decide +kernel
theorem d_R_greaterPart_95 : decode prog_11_method_144_code 95 = .ok (.goto (-74), 3) := by decide +kernel
theorem d_R_greaterPart_98 : decode prog_11_method_144_code 98 = .ok (.iinc 4 1, 3) := by decide +kernel
theorem d_R_greaterPart_101 : decode prog_11_method_144_code 101 = .ok (.goto (-94), 3) := by decide +kernel
theorem d_R_greaterPart_104 : decode prog_11_method_144_code 104 = .ok (.iload_n 2, 1) := by decide +kernel
theorem d_R_greaterPart_105 : decode prog_11_method_144_code 105 = .ok (.iload_n 3, 1) := by decide +kernel
theorem d_R_greaterPart_106 : decode prog_11_method_144_code 106 = .ok (.if_icmp .le 7, 3) := by decide +kernel
theorem d_R_greaterPart_109 : decode prog_11_method_144_code 109 = .ok (.iload_n 2, 1) := by decide +kernel
theorem d_R_greaterPart_110 : decode prog_11_method_144_code 110 = .ok (.goto 4, 3) := by decide +kernel
theorem d_R_greaterPart_113 : decode prog_11_method_144_code 113 = .ok (.iload_n 3, 1) := by decide +kernel
theorem d_R_greaterPart_114 : decode prog_11_method_144_code 114 = .ok (.ireturn, 1) := by decide +kernel
theorem d_R_game_0 : decode prog_11_method_151_code 0 = .ok (.iload_n 1, 1) := by decide +kernel
theorem d_R_game_1 : decode prog_11_method_151_code 1 = .ok (.iload_n 2, 1) := by decide +kernel
theorem d_R_game_2 : decode prog_11_method_151_code 2 = .ok (.invokestatic 508, 3) := by decide +kernel
theorem d_R_game_5 : decode prog_11_method_151_code 5 = .ok (.ifCond .ne 7, 3) := by decide +kernel
theorem d_R_game_8 : decode prog_11_method_151_code 8 = .ok (.iconst (-1), 1) := by decide +kernel
theorem d_R_game_9 : decode prog_11_method_151_code 9 = .ok (.goto 18, 3) := by decide +kernel
theorem d_R_game_12 : decode prog_11_method_151_code 12 = .ok (.aload_n 0, 1) := by decide +kernel
theorem d_R_game_13 : decode prog_11_method_151_code 13 = .ok (.iload_n 1, 1) := by decide +kernel
theorem d_R_game_14 : decode prog_11_method_151_code 14 = .ok (.iload_n 2, 1) := by decide +kernel
theorem d_R_game_15 : decode prog_11_method_151_code 15 = .ok (.invokevirtual 511, 3) := by decide +kernel
theorem d_R_game_18 : decode prog_11_method_151_code 18 = .ok (.iconst (-1), 1) := by decide +kernel
theorem d_R_game_19 : decode prog_11_method_151_code 19 = .ok (.if_icmp .ne 7, 3) := by decide +kernel
theorem d_R_game_22 : decode prog_11_method_151_code 22 = .ok (.iconst 0, 1) := by decide +kernel
theorem d_R_game_23 : decode prog_11_method_151_code 23 = .ok (.goto 4, 3) := by decide +kernel
theorem d_R_game_26 : decode prog_11_method_151_code 26 = .ok (.iconst 1, 1) := by decide +kernel
theorem d_R_game_27 : decode prog_11_method_151_code 27 = .ok (.ireturn, 1) := by decide +kernel
theorem d_R_isGame_0 : decode prog_11_method_149_code 0 = .ok (.iload_n 0, 1) := by decide +kernel
theorem d_R_isGame_1 : decode prog_11_method_149_code 1 = .ok (.invokestatic 98, 3) := by decide +kernel
theorem d_R_isGame_4 : decode prog_11_method_149_code 4 = .ok (.ifCond .eq 23, 3) := by decide +kernel
theorem d_R_isGame_7 : decode prog_11_method_149_code 7 = .ok (.iload_n 1, 1) := by decide +kernel
theorem d_R_isGame_8 : decode prog_11_method_149_code 8 = .ok (.invokestatic 98, 3) := by decide +kernel
theorem d_R_isGame_11 : decode prog_11_method_149_code 11 = .ok (.ifCond .eq 16, 3) := by decide +kernel
theorem d_R_isGame_14 : decode prog_11_method_149_code 14 = .ok (.iload_n 1, 1) := by decide +kernel
theorem d_R_isGame_15 : decode prog_11_method_149_code 15 = .ok (.invokestatic 121, 3) := by decide +kernel
theorem d_R_isGame_18 : decode prog_11_method_149_code 18 = .ok (.bipush 10, 2) := by decide +kernel
theorem d_R_isGame_20 : decode prog_11_method_149_code 20 = .ok (.if_icmp .gt 7, 3) := by decide +kernel
theorem d_R_isGame_23 : decode prog_11_method_149_code 23 = .ok (.iconst 1, 1) := by decide +kernel
theorem d_R_isGame_24 : decode prog_11_method_149_code 24 = .ok (.goto 4, 3) := by decide +kernel
theorem d_R_isGame_27 : decode prog_11_method_149_code 27 = .ok (.iconst 0, 1) := by decide +kernel
theorem d_R_isGame_28 : decode prog_11_method_149_code 28 = .ok (.ireturn, 1) := by decide +kernel
theorem d_R_playFirst_0 : decode prog_11_method_150_code 0 = .ok (.aload_n 0, 1) := by decide +kernel
theorem d_R_playFirst_1 : decode prog_11_method_150_code 1 = .ok (.iload_n 2, 1) := by decide +kernel
theorem d_R_playFirst_2 : decode prog_11_method_150_code 2 = .ok (.iload_n 1, 1) := by decide +kernel
theorem d_R_playFirst_3 : decode prog_11_method_150_code 3 = .ok (.iconst (-1), 1) := by decide +kernel
theorem d_R_playFirst_4 : decode prog_11_method_150_code 4 = .ok (.ixor, 1) := by decide +kernel
theorem d_R_playFirst_5 : decode prog_11_method_150_code 5 = .ok (.iand, 1) := by decide +kernel
theorem d_R_playFirst_6 : decode prog_11_method_150_code 6 = .ok (.invokevirtual 502, 3) := by decide +kernel
theorem d_R_playFirst_9 : decode prog_11_method_150_code 9 = .ok (.iconst 1, 1) := by decide +kernel
theorem d_R_playFirst_10 : decode prog_11_method_150_code 10 = .ok (.aload_n 0, 1) := by decide +kernel
theorem d_R_playFirst_11 : decode prog_11_method_150_code 11 = .ok (.getfield 496, 3) := by decide +kernel
theorem d_R_playFirst_14 : decode prog_11_method_150_code 14 = .ok (.ishl, 1) := by decide +kernel
theorem d_R_playFirst_15 : decode prog_11_method_150_code 15 = .ok (.iconst 1, 1) := by decide +kernel
theorem d_R_playFirst_16 : decode prog_11_method_150_code 16 = .ok (.isub, 1) := by decide +kernel
theorem d_R_playFirst_17 : decode prog_11_method_150_code 17 = .ok (.istore_n 3, 1) := by decide +kernel
theorem d_R_playFirst_18 : decode prog_11_method_150_code 18 = .ok (.iload_n 3, 1) := by decide +kernel
theorem d_R_playFirst_19 : decode prog_11_method_150_code 19 = .ok (.ifCond .le 30, 3) := by decide +kernel
theorem d_R_playFirst_22 : decode prog_11_method_150_code 22 = .ok (.aload_n 0, 1) := by decide +kernel
theorem d_R_playFirst_23 : decode prog_11_method_150_code 23 = .ok (.getfield 71, 3) := by decide +kernel
theorem d_R_playFirst_26 : decode prog_11_method_150_code 26 = .ok (.iload_n 3, 1) := by decide +kernel
theorem d_R_playFirst_27 : decode prog_11_method_150_code 27 = .ok (.aload_n 0, 1) := by decide +kernel
theorem d_R_playFirst_28 : decode prog_11_method_150_code 28 = .ok (.iload_n 1, 1) := by decide +kernel
theorem d_R_playFirst_29 : decode prog_11_method_150_code 29 = .ok (.iload_n 3, 1) := by decide +kernel
theorem d_R_playFirst_30 : decode prog_11_method_150_code 30 = .ok (.invokevirtual 505, 3) := by decide +kernel
theorem d_R_playFirst_33 : decode prog_11_method_150_code 33 = .ok (.iconst (-1), 1) := by decide +kernel
theorem d_R_playFirst_34 : decode prog_11_method_150_code 34 = .ok (.if_icmp .eq 7, 3) := by decide +kernel
theorem d_R_playFirst_37 : decode prog_11_method_150_code 37 = .ok (.iconst 1, 1) := by decide +kernel
theorem d_R_playFirst_38 : decode prog_11_method_150_code 38 = .ok (.goto 4, 3) := by decide +kernel
theorem d_R_playFirst_41 : decode prog_11_method_150_code 41 = .ok (.iconst 0, 1) := by decide +kernel
theorem d_R_playFirst_42 : decode prog_11_method_150_code 42 = .ok (.bastore, 1) := by decide +kernel
theorem d_R_playFirst_43 : decode prog_11_method_150_code 43 = .ok (.iinc 3 (-1), 3) := by decide +kernel
theorem d_R_playFirst_46 : decode prog_11_method_150_code 46 = .ok (.goto (-28), 3) := by decide +kernel
theorem d_R_playFirst_49 : decode prog_11_method_150_code 49 = .ok (.aload_n 0, 1) := by decide +kernel
theorem d_R_playFirst_50 : decode prog_11_method_150_code 50 = .ok (.iload_n 1, 1) := by decide +kernel
theorem d_R_playFirst_51 : decode prog_11_method_150_code 51 = .ok (.iconst 0, 1) := by decide +kernel
theorem d_R_playFirst_52 : decode prog_11_method_150_code 52 = .ok (.invokevirtual 505, 3) := by decide +kernel
theorem d_R_playFirst_55 : decode prog_11_method_150_code 55 = .ok (.ireturn, 1) := by decide +kernel
theorem d_R_layFrees_0 : decode prog_11_method_146_code 0 = .ok (.aload_n 0, 1) := by decide +kernel
theorem d_R_layFrees_1 : decode prog_11_method_146_code 1 = .ok (.iconst 0, 1) := by decide +kernel
theorem d_R_layFrees_2 : decode prog_11_method_146_code 2 = .ok (.putfield 496, 3) := by decide +kernel
theorem d_R_layFrees_5 : decode prog_11_method_146_code 5 = .ok (.iconst 0, 1) := by decide +kernel
theorem d_R_layFrees_6 : decode prog_11_method_146_code 6 = .ok (.istore_n 2, 1) := by decide +kernel
theorem d_R_layFrees_7 : decode prog_11_method_146_code 7 = .ok (.iload_n 2, 1) := by decide +kernel
theorem d_R_layFrees_8 : decode prog_11_method_146_code 8 = .ok (.bipush 20, 2) := by decide +kernel
theorem d_R_layFrees_10 : decode prog_11_method_146_code 10 = .ok (.if_icmp .ge 40, 3) := by decide +kernel
theorem d_R_layFrees_13 : decode prog_11_method_146_code 13 = .ok (.iload_n 1, 1) := by decide +kernel
theorem d_R_layFrees_14 : decode prog_11_method_146_code 14 = .ok (.iload_n 2, 1) := by decide +kernel
theorem d_R_layFrees_15 : decode prog_11_method_146_code 15 = .ok (.invokestatic 94, 3) := by decide +kernel
theorem d_R_layFrees_18 : decode prog_11_method_146_code 18 = .ok (.ifCond .ne 6, 3) := by decide +kernel
theorem d_R_layFrees_21 : decode prog_11_method_146_code 21 = .ok (.goto 23, 3) := by decide +kernel
theorem d_R_layFrees_24 : decode prog_11_method_146_code 24 = .ok (.aload_n 0, 1) := by decide +kernel
theorem d_R_layFrees_25 : decode prog_11_method_146_code 25 = .ok (.getfield 74, 3) := by decide +kernel
theorem d_R_layFrees_28 : decode prog_11_method_146_code 28 = .ok (.aload_n 0, 1) := by decide +kernel
theorem d_R_layFrees_29 : decode prog_11_method_146_code 29 = .ok (.getfield 496, 3) := by decide +kernel
theorem d_R_layFrees_32 : decode prog_11_method_146_code 32 = .ok (.iload_n 2, 1) := by decide +kernel
theorem d_R_layFrees_33 : decode prog_11_method_146_code 33 = .ok (.iastore, 1) := by decide +kernel
theorem d_R_layFrees_34 : decode prog_11_method_146_code 34 = .ok (.aload_n 0, 1) := by decide +kernel
theorem d_R_layFrees_35 : decode prog_11_method_146_code 35 = .ok (.dup, 1) := by decide +kernel
theorem d_R_layFrees_36 : decode prog_11_method_146_code 36 = .ok (.getfield 496, 3) := by decide +kernel
theorem d_R_layFrees_39 : decode prog_11_method_146_code 39 = .ok (.iconst 1, 1) := by decide +kernel
theorem d_R_layFrees_40 : decode prog_11_method_146_code 40 = .ok (.iadd, 1) := by decide +kernel
theorem d_R_layFrees_41 : decode prog_11_method_146_code 41 = .ok (.putfield 496, 3) := by decide +kernel
theorem d_R_layFrees_44 : decode prog_11_method_146_code 44 = .ok (.iinc 2 1, 3) := by decide +kernel
theorem d_R_layFrees_47 : decode prog_11_method_146_code 47 = .ok (.goto (-40), 3) := by decide +kernel
theorem d_R_layFrees_50 : decode prog_11_method_146_code 50 = .ok (.return_, 1) := by decide +kernel
theorem d_R_playOf_0 : decode prog_11_method_148_code 0 = .ok (.aload_n 0, 1) := by decide +kernel
theorem d_R_playOf_1 : decode prog_11_method_148_code 1 = .ok (.iload_n 1, 1) := by decide +kernel
theorem d_R_playOf_2 : decode prog_11_method_148_code 2 = .ok (.iload_n 2, 1) := by decide +kernel
theorem d_R_playOf_3 : decode prog_11_method_148_code 3 = .ok (.invokevirtual 499, 3) := by decide +kernel
theorem d_R_playOf_6 : decode prog_11_method_148_code 6 = .ok (.istore_n 3, 1) := by decide +kernel
theorem d_R_playOf_7 : decode prog_11_method_148_code 7 = .ok (.iconst 0, 1) := by decide +kernel
theorem d_R_playOf_8 : decode prog_11_method_148_code 8 = .ok (.istore 4, 2) := by decide +kernel
theorem d_R_playOf_10 : decode prog_11_method_148_code 10 = .ok (.iload 4, 2) := by decide +kernel
theorem d_R_playOf_12 : decode prog_11_method_148_code 12 = .ok (.aload_n 0, 1) := by decide +kernel
theorem d_R_playOf_13 : decode prog_11_method_148_code 13 = .ok (.getfield 496, 3) := by decide +kernel
theorem d_R_playOf_16 : decode prog_11_method_148_code 16 = .ok (.if_icmp .ge 63, 3) := by decide +kernel
theorem d_R_playOf_19 : decode prog_11_method_148_code 19 = .ok (.iload_n 2, 1) := by decide +kernel
theorem d_R_playOf_20 : decode prog_11_method_148_code 20 = .ok (.iload 4, 2) := by decide +kernel
theorem d_R_playOf_22 : decode prog_11_method_148_code 22 = .ok (.invokestatic 94, 3) := by decide +kernel
theorem d_R_playOf_25 : decode prog_11_method_148_code 25 = .ok (.ifCond .ne 48, 3) := by decide +kernel
theorem d_R_playOf_28 : decode prog_11_method_148_code 28 = .ok (.aload_n 0, 1) := by decide +kernel
theorem d_R_playOf_29 : decode prog_11_method_148_code 29 = .ok (.getfield 71, 3) := by decide +kernel
theorem d_R_playOf_32 : decode prog_11_method_148_code 32 = .ok (.iload_n 2, 1) := by decide +kernel
theorem d_R_playOf_33 : decode prog_11_method_148_code 33 = .ok (.iconst 1, 1) := by decide +kernel
theorem d_R_playOf_34 : decode prog_11_method_148_code 34 = .ok (.iload 4, 2) := by decide +kernel
theorem d_R_playOf_36 : decode prog_11_method_148_code 36 = .ok (.ishl, 1) := by decide +kernel
theorem d_R_playOf_37 : decode prog_11_method_148_code 37 = .ok (.ior, 1) := by decide +kernel
theorem d_R_playOf_38 : decode prog_11_method_148_code 38 = .ok (.baload, 1) := by decide +kernel
theorem d_R_playOf_39 : decode prog_11_method_148_code 39 = .ok (.ifCond .ne 34, 3) := by decide +kernel
theorem d_R_playOf_42 : decode prog_11_method_148_code 42 = .ok (.aload_n 0, 1) := by decide +kernel
theorem d_R_playOf_43 : decode prog_11_method_148_code 43 = .ok (.iload_n 3, 1) := by decide +kernel
theorem d_R_playOf_44 : decode prog_11_method_148_code 44 = .ok (.iconst 1, 1) := by decide +kernel
theorem d_R_playOf_45 : decode prog_11_method_148_code 45 = .ok (.aload_n 0, 1) := by decide +kernel
theorem d_R_playOf_46 : decode prog_11_method_148_code 46 = .ok (.getfield 74, 3) := by decide +kernel
theorem d_R_playOf_49 : decode prog_11_method_148_code 49 = .ok (.iload 4, 2) := by decide +kernel
theorem d_R_playOf_51 : decode prog_11_method_148_code 51 = .ok (.iaload, 1) := by decide +kernel
theorem d_R_playOf_52 : decode prog_11_method_148_code 52 = .ok (.ishl, 1) := by decide +kernel
theorem d_R_playOf_53 : decode prog_11_method_148_code 53 = .ok (.ior, 1) := by decide +kernel
theorem d_R_playOf_54 : decode prog_11_method_148_code 54 = .ok (.invokevirtual 446, 3) := by decide +kernel
theorem d_R_playOf_57 : decode prog_11_method_148_code 57 = .ok (.aload_n 0, 1) := by decide +kernel
theorem d_R_playOf_58 : decode prog_11_method_148_code 58 = .ok (.iload_n 3, 1) := by decide +kernel
theorem d_R_playOf_59 : decode prog_11_method_148_code 59 = .ok (.invokevirtual 446, 3) := by decide +kernel
theorem d_R_playOf_62 : decode prog_11_method_148_code 62 = .ok (.if_icmp .ne 11, 3) := by decide +kernel
theorem d_R_playOf_65 : decode prog_11_method_148_code 65 = .ok (.aload_n 0, 1) := by decide +kernel
theorem d_R_playOf_66 : decode prog_11_method_148_code 66 = .ok (.getfield 74, 3) := by decide +kernel
theorem d_R_playOf_69 : decode prog_11_method_148_code 69 = .ok (.iload 4, 2) := by decide +kernel
theorem d_R_playOf_71 : decode prog_11_method_148_code 71 = .ok (.iaload, 1) := by decide +kernel
theorem d_R_playOf_72 : decode prog_11_method_148_code 72 = .ok (.ireturn, 1) := by decide +kernel
theorem d_R_playOf_73 : decode prog_11_method_148_code 73 = .ok (.iinc 4 1, 3) := by decide +kernel
theorem d_R_playOf_76 : decode prog_11_method_148_code 76 = .ok (.goto (-66), 3) := by decide +kernel
theorem d_R_playOf_79 : decode prog_11_method_148_code 79 = .ok (.iconst (-1), 1) := by decide +kernel
theorem d_R_playOf_80 : decode prog_11_method_148_code 80 = .ok (.ireturn, 1) := by decide +kernel
theorem d_R_withFrees_0 : decode prog_11_method_147_code 0 = .ok (.iload_n 1, 1) := by decide +kernel
theorem d_R_withFrees_1 : decode prog_11_method_147_code 1 = .ok (.istore_n 3, 1) := by decide +kernel
theorem d_R_withFrees_2 : decode prog_11_method_147_code 2 = .ok (.iconst 0, 1) := by decide +kernel
theorem d_R_withFrees_3 : decode prog_11_method_147_code 3 = .ok (.istore 4, 2) := by decide +kernel
theorem d_R_withFrees_5 : decode prog_11_method_147_code 5 = .ok (.iload 4, 2) := by decide +kernel
theorem d_R_withFrees_7 : decode prog_11_method_147_code 7 = .ok (.aload_n 0, 1) := by decide +kernel
theorem d_R_withFrees_8 : decode prog_11_method_147_code 8 = .ok (.getfield 496, 3) := by decide +kernel
theorem d_R_withFrees_11 : decode prog_11_method_147_code 11 = .ok (.if_icmp .ge 34, 3) := by decide +kernel
theorem d_R_withFrees_14 : decode prog_11_method_147_code 14 = .ok (.iload_n 3, 1) := by decide +kernel
theorem d_R_withFrees_15 : decode prog_11_method_147_code 15 = .ok (.iload_n 2, 1) := by decide +kernel
theorem d_R_withFrees_16 : decode prog_11_method_147_code 16 = .ok (.iload 4, 2) := by decide +kernel
theorem d_R_withFrees_18 : decode prog_11_method_147_code 18 = .ok (.invokestatic 94, 3) := by decide +kernel
theorem d_R_withFrees_21 : decode prog_11_method_147_code 21 = .ok (.ifCond .eq 15, 3) := by decide +kernel
theorem d_R_withFrees_24 : decode prog_11_method_147_code 24 = .ok (.iconst 1, 1) := by decide +kernel
theorem d_R_withFrees_25 : decode prog_11_method_147_code 25 = .ok (.aload_n 0, 1) := by decide +kernel
theorem d_R_withFrees_26 : decode prog_11_method_147_code 26 = .ok (.getfield 74, 3) := by decide +kernel
theorem d_R_withFrees_29 : decode prog_11_method_147_code 29 = .ok (.iload 4, 2) := by decide +kernel
theorem d_R_withFrees_31 : decode prog_11_method_147_code 31 = .ok (.iaload, 1) := by decide +kernel
theorem d_R_withFrees_32 : decode prog_11_method_147_code 32 = .ok (.ishl, 1) := by decide +kernel
theorem d_R_withFrees_33 : decode prog_11_method_147_code 33 = .ok (.goto 4, 3) := by decide +kernel
theorem d_R_withFrees_36 : decode prog_11_method_147_code 36 = .ok (.iconst 0, 1) := by decide +kernel
theorem d_R_withFrees_37 : decode prog_11_method_147_code 37 = .ok (.ior, 1) := by decide +kernel
theorem d_R_withFrees_38 : decode prog_11_method_147_code 38 = .ok (.istore_n 3, 1) := by decide +kernel
theorem d_R_withFrees_39 : decode prog_11_method_147_code 39 = .ok (.iinc 4 1, 3) := by decide +kernel
theorem d_R_withFrees_42 : decode prog_11_method_147_code 42 = .ok (.goto (-37), 3) := by decide +kernel
theorem d_R_withFrees_45 : decode prog_11_method_147_code 45 = .ok (.iload_n 3, 1) := by decide +kernel
theorem d_R_withFrees_46 : decode prog_11_method_147_code 46 = .ok (.ireturn, 1) := by decide +kernel
theorem d_R_play_0 : decode prog_11_method_152_code 0 = .ok (.iload_n 1, 1) := by decide +kernel
theorem d_R_play_1 : decode prog_11_method_152_code 1 = .ok (.iload_n 2, 1) := by decide +kernel
theorem d_R_play_2 : decode prog_11_method_152_code 2 = .ok (.invokestatic 508, 3) := by decide +kernel
theorem d_R_play_5 : decode prog_11_method_152_code 5 = .ok (.ifCond .eq 12, 3) := by decide +kernel
theorem d_R_play_8 : decode prog_11_method_152_code 8 = .ok (.aload_n 0, 1) := by decide +kernel
theorem d_R_play_9 : decode prog_11_method_152_code 9 = .ok (.iload_n 1, 1) := by decide +kernel
theorem d_R_play_10 : decode prog_11_method_152_code 10 = .ok (.iload_n 2, 1) := by decide +kernel
theorem d_R_play_11 : decode prog_11_method_152_code 11 = .ok (.invokevirtual 511, 3) := by decide +kernel
theorem d_R_play_14 : decode prog_11_method_152_code 14 = .ok (.goto 4, 3) := by decide +kernel
theorem d_R_play_17 : decode prog_11_method_152_code 17 = .ok (.iconst (-1), 1) := by decide +kernel
theorem d_R_play_18 : decode prog_11_method_152_code 18 = .ok (.ireturn, 1) := by decide +kernel
theorem d_R_said_0 : decode prog_11_method_153_code 0 = .ok (.iload_n 1, 1) := by decide +kernel
theorem d_R_said_1 : decode prog_11_method_153_code 1 = .ok (.iconst (-1), 1) := by decide +kernel
theorem d_R_said_2 : decode prog_11_method_153_code 2 = .ok (.if_icmp .ne 12, 3) := by decide +kernel
theorem d_R_said_5 : decode prog_11_method_153_code 5 = .ok (.aload_n 0, 1) := by decide +kernel
theorem d_R_said_6 : decode prog_11_method_153_code 6 = .ok (.getfield 7, 3) := by decide +kernel
theorem d_R_said_9 : decode prog_11_method_153_code 9 = .ok (.iconst 5, 1) := by decide +kernel
theorem d_R_said_10 : decode prog_11_method_153_code 10 = .ok (.iconst 0, 1) := by decide +kernel
theorem d_R_said_11 : decode prog_11_method_153_code 11 = .ok (.iastore, 1) := by decide +kernel
theorem d_R_said_12 : decode prog_11_method_153_code 12 = .ok (.iconst 0, 1) := by decide +kernel
theorem d_R_said_13 : decode prog_11_method_153_code 13 = .ok (.ireturn, 1) := by decide +kernel
theorem d_R_said_14 : decode prog_11_method_153_code 14 = .ok (.aload_n 0, 1) := by decide +kernel
theorem d_R_said_15 : decode prog_11_method_153_code 15 = .ok (.iload_n 1, 1) := by decide +kernel
theorem d_R_said_16 : decode prog_11_method_153_code 16 = .ok (.invokevirtual 379, 3) := by decide +kernel
theorem d_R_said_19 : decode prog_11_method_153_code 19 = .ok (.ifCond .eq 31, 3) := by decide +kernel
theorem d_R_said_22 : decode prog_11_method_153_code 22 = .ok (.iload_n 2, 1) := by decide +kernel
theorem d_R_said_23 : decode prog_11_method_153_code 23 = .ok (.invokestatic 382, 3) := by decide +kernel
theorem d_R_said_26 : decode prog_11_method_153_code 26 = .ok (.ifCond .eq 24, 3) := by decide +kernel
theorem d_R_said_29 : decode prog_11_method_153_code 29 = .ok (.iload_n 3, 1) := by decide +kernel
theorem d_R_said_30 : decode prog_11_method_153_code 30 = .ok (.iconst 0, 1) := by decide +kernel
theorem d_R_said_31 : decode prog_11_method_153_code 31 = .ok (.bipush 10, 2) := by decide +kernel
theorem d_R_said_33 : decode prog_11_method_153_code 33 = .ok (.invokestatic 89, 3) := by decide +kernel
theorem d_R_said_36 : decode prog_11_method_153_code 36 = .ok (.ifCond .eq 14, 3) := by decide +kernel
theorem d_R_said_39 : decode prog_11_method_153_code 39 = .ok (.aload_n 0, 1) := by decide +kernel
theorem d_R_said_40 : decode prog_11_method_153_code 40 = .ok (.getfield 7, 3) := by decide +kernel
theorem d_R_said_43 : decode prog_11_method_153_code 43 = .ok (.iconst 5, 1) := by decide +kernel
theorem d_R_said_44 : decode prog_11_method_153_code 44 = .ok (.iaload, 1) := by decide +kernel
theorem d_R_said_45 : decode prog_11_method_153_code 45 = .ok (.bipush 8, 2) := by decide +kernel
theorem d_R_said_47 : decode prog_11_method_153_code 47 = .ok (.if_icmp .ne 6, 3) := by decide +kernel
theorem d_R_said_50 : decode prog_11_method_153_code 50 = .ok (.bipush (-2), 2) := by decide +kernel
theorem d_R_said_52 : decode prog_11_method_153_code 52 = .ok (.ireturn, 1) := by decide +kernel
theorem d_R_said_53 : decode prog_11_method_153_code 53 = .ok (.bipush 28, 2) := by decide +kernel
theorem d_R_said_55 : decode prog_11_method_153_code 55 = .ok (.iconst 3, 1) := by decide +kernel
theorem d_R_said_56 : decode prog_11_method_153_code 56 = .ok (.aload_n 0, 1) := by decide +kernel
theorem d_R_said_57 : decode prog_11_method_153_code 57 = .ok (.getfield 7, 3) := by decide +kernel
theorem d_R_said_60 : decode prog_11_method_153_code 60 = .ok (.iconst 5, 1) := by decide +kernel
theorem d_R_said_61 : decode prog_11_method_153_code 61 = .ok (.iaload, 1) := by decide +kernel
theorem d_R_said_62 : decode prog_11_method_153_code 62 = .ok (.imul, 1) := by decide +kernel
theorem d_R_said_63 : decode prog_11_method_153_code 63 = .ok (.iadd, 1) := by decide +kernel
theorem d_R_said_64 : decode prog_11_method_153_code 64 = .ok (.istore 4, 2) := by decide +kernel
theorem d_R_said_66 : decode prog_11_method_153_code 66 = .ok (.aload_n 0, 1) := by decide +kernel
theorem d_R_said_67 : decode prog_11_method_153_code 67 = .ok (.getfield 7, 3) := by decide +kernel
theorem d_R_said_70 : decode prog_11_method_153_code 70 = .ok (.iload 4, 2) := by decide +kernel
theorem d_R_said_72 : decode prog_11_method_153_code 72 = .ok (.iload_n 1, 1) := by decide +kernel
theorem d_R_said_73 : decode prog_11_method_153_code 73 = .ok (.iastore, 1) := by decide +kernel
theorem d_R_said_74 : decode prog_11_method_153_code 74 = .ok (.aload_n 0, 1) := by decide +kernel
theorem d_R_said_75 : decode prog_11_method_153_code 75 = .ok (.getfield 7, 3) := by decide +kernel
theorem d_R_said_78 : decode prog_11_method_153_code 78 = .ok (.iload 4, 2) := by decide +kernel
theorem d_R_said_80 : decode prog_11_method_153_code 80 = .ok (.iconst 1, 1) := by decide +kernel
theorem d_R_said_81 : decode prog_11_method_153_code 81 = .ok (.iadd, 1) := by decide +kernel
theorem d_R_said_82 : decode prog_11_method_153_code 82 = .ok (.iload_n 2, 1) := by decide +kernel
theorem d_R_said_83 : decode prog_11_method_153_code 83 = .ok (.iastore, 1) := by decide +kernel
theorem d_R_said_84 : decode prog_11_method_153_code 84 = .ok (.aload_n 0, 1) := by decide +kernel
theorem d_R_said_85 : decode prog_11_method_153_code 85 = .ok (.getfield 7, 3) := by decide +kernel
theorem d_R_said_88 : decode prog_11_method_153_code 88 = .ok (.iload 4, 2) := by decide +kernel
theorem d_R_said_90 : decode prog_11_method_153_code 90 = .ok (.iconst 2, 1) := by decide +kernel
theorem d_R_said_91 : decode prog_11_method_153_code 91 = .ok (.iadd, 1) := by decide +kernel
theorem d_R_said_92 : decode prog_11_method_153_code 92 = .ok (.iload_n 3, 1) := by decide +kernel
theorem d_R_said_93 : decode prog_11_method_153_code 93 = .ok (.iastore, 1) := by decide +kernel
theorem d_R_said_94 : decode prog_11_method_153_code 94 = .ok (.aload_n 0, 1) := by decide +kernel
theorem d_R_said_95 : decode prog_11_method_153_code 95 = .ok (.getfield 7, 3) := by decide +kernel
theorem d_R_said_98 : decode prog_11_method_153_code 98 = .ok (.iconst 5, 1) := by decide +kernel
theorem d_R_said_99 : decode prog_11_method_153_code 99 = .ok (.dup2, 1) := by decide +kernel
theorem d_R_said_100 : decode prog_11_method_153_code 100 = .ok (.iaload, 1) := by decide +kernel
theorem d_R_said_101 : decode prog_11_method_153_code 101 = .ok (.iconst 1, 1) := by decide +kernel
theorem d_R_said_102 : decode prog_11_method_153_code 102 = .ok (.iadd, 1) := by decide +kernel
theorem d_R_said_103 : decode prog_11_method_153_code 103 = .ok (.iastore, 1) := by decide +kernel
theorem d_R_said_104 : decode prog_11_method_153_code 104 = .ok (.aload_n 0, 1) := by decide +kernel
theorem d_R_said_105 : decode prog_11_method_153_code 105 = .ok (.getfield 7, 3) := by decide +kernel
theorem d_R_said_108 : decode prog_11_method_153_code 108 = .ok (.iconst 5, 1) := by decide +kernel
theorem d_R_said_109 : decode prog_11_method_153_code 109 = .ok (.iaload, 1) := by decide +kernel
theorem d_R_said_110 : decode prog_11_method_153_code 110 = .ok (.ireturn, 1) := by decide +kernel
theorem d_R_whose_0 : decode prog_11_method_154_code 0 = .ok (.iconst 0, 1) := by decide +kernel
theorem d_R_whose_1 : decode prog_11_method_154_code 1 = .ok (.istore_n 1, 1) := by decide +kernel
theorem d_R_whose_2 : decode prog_11_method_154_code 2 = .ok (.iconst 0, 1) := by decide +kernel
theorem d_R_whose_3 : decode prog_11_method_154_code 3 = .ok (.istore_n 2, 1) := by decide +kernel
theorem d_R_whose_4 : decode prog_11_method_154_code 4 = .ok (.iload_n 2, 1) := by decide +kernel
theorem d_R_whose_5 : decode prog_11_method_154_code 5 = .ok (.aload_n 0, 1) := by decide +kernel
theorem d_R_whose_6 : decode prog_11_method_154_code 6 = .ok (.getfield 7, 3) := by decide +kernel
theorem d_R_whose_9 : decode prog_11_method_154_code 9 = .ok (.iconst 1, 1) := by decide +kernel
theorem d_R_whose_10 : decode prog_11_method_154_code 10 = .ok (.iaload, 1) := by decide +kernel
theorem d_R_whose_11 : decode prog_11_method_154_code 11 = .ok (.if_icmp .ge 94, 3) := by decide +kernel
theorem d_R_whose_14 : decode prog_11_method_154_code 14 = .ok (.iconst 1, 1) := by decide +kernel
theorem d_R_whose_15 : decode prog_11_method_154_code 15 = .ok (.istore_n 3, 1) := by decide +kernel
theorem d_R_whose_16 : decode prog_11_method_154_code 16 = .ok (.bipush 28, 2) := by decide +kernel
theorem d_R_whose_18 : decode prog_11_method_154_code 18 = .ok (.istore 4, 2) := by decide +kernel
theorem d_R_whose_20 : decode prog_11_method_154_code 20 = .ok (.iload 4, 2) := by decide +kernel
theorem d_R_whose_22 : decode prog_11_method_154_code 22 = .ok (.bipush 28, 2) := by decide +kernel
theorem d_R_whose_24 : decode prog_11_method_154_code 24 = .ok (.iconst 3, 1) := by decide +kernel
theorem d_R_whose_25 : decode prog_11_method_154_code 25 = .ok (.aload_n 0, 1) := by decide +kernel
theorem d_R_whose_26 : decode prog_11_method_154_code 26 = .ok (.getfield 7, 3) := by decide +kernel
theorem d_R_whose_29 : decode prog_11_method_154_code 29 = .ok (.iconst 5, 1) := by decide +kernel
theorem d_R_whose_30 : decode prog_11_method_154_code 30 = .ok (.iaload, 1) := by decide +kernel
theorem d_R_whose_31 : decode prog_11_method_154_code 31 = .ok (.imul, 1) := by decide +kernel
theorem d_R_whose_32 : decode prog_11_method_154_code 32 = .ok (.iadd, 1) := by decide +kernel
theorem d_R_whose_33 : decode prog_11_method_154_code 33 = .ok (.if_icmp .ge 52, 3) := by decide +kernel
theorem d_R_whose_36 : decode prog_11_method_154_code 36 = .ok (.iload_n 3, 1) := by decide +kernel
theorem d_R_whose_37 : decode prog_11_method_154_code 37 = .ok (.ifCond .eq 40, 3) := by decide +kernel
theorem d_R_whose_40 : decode prog_11_method_154_code 40 = .ok (.aload_n 0, 1) := by decide +kernel
theorem d_R_whose_41 : decode prog_11_method_154_code 41 = .ok (.iload_n 2, 1) := by decide +kernel
theorem d_R_whose_42 : decode prog_11_method_154_code 42 = .ok (.aload_n 0, 1) := by decide +kernel
theorem d_R_whose_43 : decode prog_11_method_154_code 43 = .ok (.getfield 7, 3) := by decide +kernel
theorem d_R_whose_46 : decode prog_11_method_154_code 46 = .ok (.iload 4, 2) := by decide +kernel
theorem d_R_whose_48 : decode prog_11_method_154_code 48 = .ok (.iaload, 1) := by decide +kernel
theorem d_R_whose_49 : decode prog_11_method_154_code 49 = .ok (.aload_n 0, 1) := by decide +kernel
theorem d_R_whose_50 : decode prog_11_method_154_code 50 = .ok (.getfield 7, 3) := by decide +kernel
theorem d_R_whose_53 : decode prog_11_method_154_code 53 = .ok (.iload 4, 2) := by decide +kernel
theorem d_R_whose_55 : decode prog_11_method_154_code 55 = .ok (.iconst 1, 1) := by decide +kernel
theorem d_R_whose_56 : decode prog_11_method_154_code 56 = .ok (.iadd, 1) := by decide +kernel
theorem d_R_whose_57 : decode prog_11_method_154_code 57 = .ok (.iaload, 1) := by decide +kernel
theorem d_R_whose_58 : decode prog_11_method_154_code 58 = .ok (.invokevirtual 395, 3) := by decide +kernel
theorem d_R_whose_61 : decode prog_11_method_154_code 61 = .ok (.aload_n 0, 1) := by decide +kernel
theorem d_R_whose_62 : decode prog_11_method_154_code 62 = .ok (.getfield 7, 3) := by decide +kernel
theorem d_R_whose_65 : decode prog_11_method_154_code 65 = .ok (.iload 4, 2) := by decide +kernel
theorem d_R_whose_67 : decode prog_11_method_154_code 67 = .ok (.iconst 2, 1) := by decide +kernel
theorem d_R_whose_68 : decode prog_11_method_154_code 68 = .ok (.iadd, 1) := by decide +kernel
theorem d_R_whose_69 : decode prog_11_method_154_code 69 = .ok (.iaload, 1) := by decide +kernel
theorem d_R_whose_70 : decode prog_11_method_154_code 70 = .ok (.if_icmp .ne 7, 3) := by decide +kernel
theorem d_R_whose_73 : decode prog_11_method_154_code 73 = .ok (.iconst 1, 1) := by decide +kernel
theorem d_R_whose_74 : decode prog_11_method_154_code 74 = .ok (.goto 4, 3) := by decide +kernel
theorem d_R_whose_77 : decode prog_11_method_154_code 77 = .ok (.iconst 0, 1) := by decide +kernel
theorem d_R_whose_78 : decode prog_11_method_154_code 78 = .ok (.istore_n 3, 1) := by decide +kernel
theorem d_R_whose_79 : decode prog_11_method_154_code 79 = .ok (.iinc 4 3, 3) := by decide +kernel
theorem d_R_whose_82 : decode prog_11_method_154_code 82 = .ok (.goto (-62), 3) := by decide +kernel
theorem d_R_whose_85 : decode prog_11_method_154_code 85 = .ok (.iload_n 1, 1) := by decide +kernel
theorem d_R_whose_86 : decode prog_11_method_154_code 86 = .ok (.iload_n 3, 1) := by decide +kernel
theorem d_R_whose_87 : decode prog_11_method_154_code 87 = .ok (.ifCond .eq 9, 3) := by decide +kernel
theorem d_R_whose_90 : decode prog_11_method_154_code 90 = .ok (.iconst 1, 1) := by decide +kernel
theorem d_R_whose_91 : decode prog_11_method_154_code 91 = .ok (.iload_n 2, 1) := by decide +kernel
theorem d_R_whose_92 : decode prog_11_method_154_code 92 = .ok (.ishl, 1) := by decide +kernel
theorem d_R_whose_93 : decode prog_11_method_154_code 93 = .ok (.goto 4, 3) := by decide +kernel
theorem d_R_whose_96 : decode prog_11_method_154_code 96 = .ok (.iconst 0, 1) := by decide +kernel
theorem d_R_whose_97 : decode prog_11_method_154_code 97 = .ok (.ior, 1) := by decide +kernel
theorem d_R_whose_98 : decode prog_11_method_154_code 98 = .ok (.istore_n 1, 1) := by decide +kernel
theorem d_R_whose_99 : decode prog_11_method_154_code 99 = .ok (.iinc 2 1, 3) := by decide +kernel
theorem d_R_whose_102 : decode prog_11_method_154_code 102 = .ok (.goto (-98), 3) := by decide +kernel
theorem d_R_whose_105 : decode prog_11_method_154_code 105 = .ok (.iload_n 1, 1) := by decide +kernel
theorem d_R_whose_106 : decode prog_11_method_154_code 106 = .ok (.ireturn, 1) := by decide +kernel
theorem d_R_image_0 : decode prog_11_method_155_code 0 = .ok (.aload_n 0, 1) := by decide +kernel
theorem d_R_image_1 : decode prog_11_method_155_code 1 = .ok (.getfield 7, 3) := by decide +kernel
theorem d_R_image_4 : decode prog_11_method_155_code 4 = .ok (.aload_n 0, 1) := by decide +kernel
theorem d_R_image_5 : decode prog_11_method_155_code 5 = .ok (.getfield 13, 3) := by decide +kernel
theorem d_R_image_8 : decode prog_11_method_155_code 8 = .ok (.invokestatic 85, 3) := by decide +kernel
theorem d_R_image_11 : decode prog_11_method_155_code 11 = .ok (.aload_n 0, 1) := by decide +kernel
theorem d_R_image_12 : decode prog_11_method_155_code 12 = .ok (.getfield 7, 3) := by decide +kernel
theorem d_R_image_15 : decode prog_11_method_155_code 15 = .ok (.bipush 6, 2) := by decide +kernel
theorem d_R_image_17 : decode prog_11_method_155_code 17 = .ok (.iaload, 1) := by decide +kernel
theorem d_R_image_18 : decode prog_11_method_155_code 18 = .ok (.ireturn, 1) := by decide +kernel
theorem d_R_back_0 : decode prog_11_method_156_code 0 = .ok (.aload_n 0, 1) := by decide +kernel
theorem d_R_back_1 : decode prog_11_method_156_code 1 = .ok (.getfield 13, 3) := by decide +kernel
theorem d_R_back_4 : decode prog_11_method_156_code 4 = .ok (.aload_n 0, 1) := by decide +kernel
theorem d_R_back_5 : decode prog_11_method_156_code 5 = .ok (.getfield 7, 3) := by decide +kernel
theorem d_R_back_8 : decode prog_11_method_156_code 8 = .ok (.invokestatic 85, 3) := by decide +kernel
theorem d_R_back_11 : decode prog_11_method_156_code 11 = .ok (.aload_n 0, 1) := by decide +kernel
theorem d_R_back_12 : decode prog_11_method_156_code 12 = .ok (.getfield 7, 3) := by decide +kernel
theorem d_R_back_15 : decode prog_11_method_156_code 15 = .ok (.bipush 6, 2) := by decide +kernel
theorem d_R_back_17 : decode prog_11_method_156_code 17 = .ok (.iaload, 1) := by decide +kernel
theorem d_R_back_18 : decode prog_11_method_156_code 18 = .ok (.ireturn, 1) := by decide +kernel
theorem d_R_about_0 : decode prog_11_method_157_code 0 = .ok (.iload_n 1, 1) := by decide +kernel
theorem d_R_about_1 : decode prog_11_method_157_code 1 = .ok (.iconst 0, 1) := by decide +kernel
theorem d_R_about_2 : decode prog_11_method_157_code 2 = .ok (.iconst 5, 1) := by decide +kernel
theorem d_R_about_3 : decode prog_11_method_157_code 3 = .ok (.invokestatic 89, 3) := by decide +kernel
theorem d_R_about_6 : decode prog_11_method_157_code 6 = .ok (.ifCond .eq 12, 3) := by decide +kernel
theorem d_R_about_9 : decode prog_11_method_157_code 9 = .ok (.aload_n 0, 1) := by decide +kernel
theorem d_R_about_10 : decode prog_11_method_157_code 10 = .ok (.getfield 7, 3) := by decide +kernel
theorem d_R_about_13 : decode prog_11_method_157_code 13 = .ok (.iload_n 1, 1) := by decide +kernel
theorem d_R_about_14 : decode prog_11_method_157_code 14 = .ok (.iaload, 1) := by decide +kernel
theorem d_R_about_15 : decode prog_11_method_157_code 15 = .ok (.goto 18, 3) := by decide +kernel
theorem d_R_about_18 : decode prog_11_method_157_code 18 = .ok (.iload_n 1, 1) := by decide +kernel
theorem d_R_about_19 : decode prog_11_method_157_code 19 = .ok (.bipush 6, 2) := by decide +kernel
theorem d_R_about_21 : decode prog_11_method_157_code 21 = .ok (.if_icmp .ne 10, 3) := by decide +kernel
theorem d_R_about_24 : decode prog_11_method_157_code 24 = .ok (.aload_n 0, 1) := by decide +kernel
theorem d_R_about_25 : decode prog_11_method_157_code 25 = .ok (.getfield 142, 3) := by decide +kernel
theorem d_R_about_28 : decode prog_11_method_157_code 28 = .ok (.goto 5, 3) := by decide +kernel
theorem d_R_about_31 : decode prog_11_method_157_code 31 = .ok (.bipush (-2), 2) := by decide +kernel
theorem d_R_about_33 : decode prog_11_method_157_code 33 = .ok (.ireturn, 1) := by decide +kernel
