theorem d_K_touched_0 : decode prog_7_method_4_code 0 = .ok (.iconst 0, 1) := by decide +kernel
theorem d_K_touched_1 : decode prog_7_method_4_code 1 = .ok (.istore_n 1, 1) := by decide +kernel
theorem d_K_touched_2 : decode prog_7_method_4_code 2 = .ok (.iconst 0, 1) := by decide +kernel
theorem d_K_touched_3 : decode prog_7_method_4_code 3 = .ok (.istore_n 2, 1) := by decide +kernel
theorem d_K_touched_4 : decode prog_7_method_4_code 4 = .ok (.iload_n 2, 1) := by decide +kernel
theorem d_K_touched_5 : decode prog_7_method_4_code 5 = .ok (.bipush 20, 2) := by decide +kernel
theorem d_K_touched_7 : decode prog_7_method_4_code 7 = .ok (.if_icmp .ge 26, 3) := by decide +kernel
theorem d_K_touched_10 : decode prog_7_method_4_code 10 = .ok (.iload_n 0, 1) := by decide +kernel
theorem d_K_touched_11 : decode prog_7_method_4_code 11 = .ok (.iload_n 2, 1) := by decide +kernel
theorem d_K_touched_12 : decode prog_7_method_4_code 12 = .ok (.ishr, 1) := by decide +kernel
theorem d_K_touched_13 : decode prog_7_method_4_code 13 = .ok (.iconst 1, 1) := by decide +kernel
theorem d_K_touched_14 : decode prog_7_method_4_code 14 = .ok (.iand, 1) := by decide +kernel
theorem d_K_touched_15 : decode prog_7_method_4_code 15 = .ok (.iconst 1, 1) := by decide +kernel
theorem d_K_touched_16 : decode prog_7_method_4_code 16 = .ok (.if_icmp .ne 11, 3) := by decide +kernel
theorem d_K_touched_19 : decode prog_7_method_4_code 19 = .ok (.iload_n 1, 1) := by decide +kernel
theorem d_K_touched_20 : decode prog_7_method_4_code 20 = .ok (.getstatic 9, 3) := by decide +kernel
theorem d_K_touched_23 : decode prog_7_method_4_code 23 = .ok (.iload_n 2, 1) := by decide +kernel
theorem d_K_touched_24 : decode prog_7_method_4_code 24 = .ok (.iaload, 1) := by decide +kernel
theorem d_K_touched_25 : decode prog_7_method_4_code 25 = .ok (.ior, 1) := by decide +kernel
theorem d_K_touched_26 : decode prog_7_method_4_code 26 = .ok (.istore_n 1, 1) := by decide +kernel
theorem d_K_touched_27 : decode prog_7_method_4_code 27 = .ok (.iinc 2 1, 3) := by decide +kernel
theorem d_K_touched_30 : decode prog_7_method_4_code 30 = .ok (.goto (-26), 3) := by decide +kernel
theorem d_K_touched_33 : decode prog_7_method_4_code 33 = .ok (.iload_n 1, 1) := by decide +kernel
theorem d_K_touched_34 : decode prog_7_method_4_code 34 = .ok (.ireturn, 1) := by decide +kernel
theorem d_K_joinedWith_0 : decode prog_7_method_7_code 0 = .ok (.iconst 0, 1) := by decide +kernel
theorem d_K_joinedWith_1 : decode prog_7_method_7_code 1 = .ok (.istore_n 2, 1) := by decide +kernel
theorem d_K_joinedWith_2 : decode prog_7_method_7_code 2 = .ok (.iconst 1, 1) := by decide +kernel
theorem d_K_joinedWith_3 : decode prog_7_method_7_code 3 = .ok (.iload_n 0, 1) := by decide +kernel
theorem d_K_joinedWith_4 : decode prog_7_method_7_code 4 = .ok (.ishl, 1) := by decide +kernel
theorem d_K_joinedWith_5 : decode prog_7_method_7_code 5 = .ok (.istore_n 3, 1) := by decide +kernel
theorem d_K_joinedWith_6 : decode prog_7_method_7_code 6 = .ok (.iconst 1, 1) := by decide +kernel
theorem d_K_joinedWith_7 : decode prog_7_method_7_code 7 = .ok (.istore 4, 2) := by decide +kernel
theorem d_K_joinedWith_9 : decode prog_7_method_7_code 9 = .ok (.iload 4, 2) := by decide +kernel
theorem d_K_joinedWith_11 : decode prog_7_method_7_code 11 = .ok (.bipush 9, 2) := by decide +kernel
theorem d_K_joinedWith_13 : decode prog_7_method_7_code 13 = .ok (.if_icmp .ge 62, 3) := by decide +kernel
theorem d_K_joinedWith_16 : decode prog_7_method_7_code 16 = .ok (.iload_n 3, 1) := by decide +kernel
theorem d_K_joinedWith_17 : decode prog_7_method_7_code 17 = .ok (.iload_n 2, 1) := by decide +kernel
theorem d_K_joinedWith_18 : decode prog_7_method_7_code 18 = .ok (.if_icmp .eq 57, 3) := by decide +kernel
theorem d_K_joinedWith_21 : decode prog_7_method_7_code 21 = .ok (.iload_n 3, 1) := by decide +kernel
theorem d_K_joinedWith_22 : decode prog_7_method_7_code 22 = .ok (.istore_n 2, 1) := by decide +kernel
theorem d_K_joinedWith_23 : decode prog_7_method_7_code 23 = .ok (.iconst 0, 1) := by decide +kernel
theorem d_K_joinedWith_24 : decode prog_7_method_7_code 24 = .ok (.istore 5, 2) := by decide +kernel
theorem d_K_joinedWith_26 : decode prog_7_method_7_code 26 = .ok (.iload 5, 2) := by decide +kernel
theorem d_K_joinedWith_28 : decode prog_7_method_7_code 28 = .ok (.bipush 20, 2) := by decide +kernel
theorem d_K_joinedWith_30 : decode prog_7_method_7_code 30 = .ok (.if_icmp .ge 39, 3) := by decide +kernel
theorem d_K_joinedWith_33 : decode prog_7_method_7_code 33 = .ok (.iload_n 1, 1) := by decide +kernel
theorem d_K_joinedWith_34 : decode prog_7_method_7_code 34 = .ok (.iload 5, 2) := by decide +kernel
theorem d_K_joinedWith_36 : decode prog_7_method_7_code 36 = .ok (.ishr, 1) := by decide +kernel
theorem d_K_joinedWith_37 : decode prog_7_method_7_code 37 = .ok (.iconst 1, 1) := by decide +kernel
theorem d_K_joinedWith_38 : decode prog_7_method_7_code 38 = .ok (.iand, 1) := by decide +kernel
theorem d_K_joinedWith_39 : decode prog_7_method_7_code 39 = .ok (.iconst 1, 1) := by decide +kernel
theorem d_K_joinedWith_40 : decode prog_7_method_7_code 40 = .ok (.if_icmp .ne 23, 3) := by decide +kernel
theorem d_K_joinedWith_43 : decode prog_7_method_7_code 43 = .ok (.getstatic 9, 3) := by decide +kernel
theorem d_K_joinedWith_46 : decode prog_7_method_7_code 46 = .ok (.iload 5, 2) := by decide +kernel
theorem d_K_joinedWith_48 : decode prog_7_method_7_code 48 = .ok (.iaload, 1) := by decide +kernel
theorem d_K_joinedWith_49 : decode prog_7_method_7_code 49 = .ok (.iload_n 3, 1) := by decide +kernel
theorem d_K_joinedWith_50 : decode prog_7_method_7_code 50 = .ok (.iand, 1) := by decide +kernel
theorem d_K_joinedWith_51 : decode prog_7_method_7_code 51 = .ok (.ifCond .eq 12, 3) := by decide +kernel
theorem d_K_joinedWith_54 : decode prog_7_method_7_code 54 = .ok (.iload_n 3, 1) := by decide +kernel
theorem d_K_joinedWith_55 : decode prog_7_method_7_code 55 = .ok (.getstatic 9, 3) := by decide +kernel
theorem d_K_joinedWith_58 : decode prog_7_method_7_code 58 = .ok (.iload 5, 2) := by decide +kernel
theorem d_K_joinedWith_60 : decode prog_7_method_7_code 60 = .ok (.iaload, 1) := by decide +kernel
theorem d_K_joinedWith_61 : decode prog_7_method_7_code 61 = .ok (.ior, 1) := by decide +kernel
theorem d_K_joinedWith_62 : decode prog_7_method_7_code 62 = .ok (.istore_n 3, 1) := by decide +kernel
theorem d_K_joinedWith_63 : decode prog_7_method_7_code 63 = .ok (.iinc 5 1, 3) := by decide +kernel
theorem d_K_joinedWith_66 : decode prog_7_method_7_code 66 = .ok (.goto (-40), 3) := by decide +kernel
theorem d_K_joinedWith_69 : decode prog_7_method_7_code 69 = .ok (.iinc 4 1, 3) := by decide +kernel
theorem d_K_joinedWith_72 : decode prog_7_method_7_code 72 = .ok (.goto (-63), 3) := by decide +kernel
theorem d_K_joinedWith_75 : decode prog_7_method_7_code 75 = .ok (.iload_n 3, 1) := by decide +kernel
theorem d_K_joinedWith_76 : decode prog_7_method_7_code 76 = .ok (.ireturn, 1) := by decide +kernel
theorem d_L_pop_0 : decode prog_3_method_5_code 0 = .ok (.aload_n 0, 1) := by decide +kernel
theorem d_L_pop_1 : decode prog_3_method_5_code 1 = .ok (.getfield 61, 3) := by decide +kernel
theorem d_L_pop_4 : decode prog_3_method_5_code 4 = .ok (.ifCond .gt 5, 3) := by decide +kernel
theorem d_L_pop_7 : decode prog_3_method_5_code 7 = .ok (.iconst 0, 1) := by decide +kernel
theorem d_L_pop_8 : decode prog_3_method_5_code 8 = .ok (.ireturn, 1) := by decide +kernel
theorem d_L_pop_9 : decode prog_3_method_5_code 9 = .ok (.aload_n 0, 1) := by decide +kernel
theorem d_L_pop_10 : decode prog_3_method_5_code 10 = .ok (.dup, 1) := by decide +kernel
theorem d_L_pop_11 : decode prog_3_method_5_code 11 = .ok (.getfield 61, 3) := by decide +kernel
theorem d_L_pop_14 : decode prog_3_method_5_code 14 = .ok (.iconst 1, 1) := by decide +kernel
theorem d_L_pop_15 : decode prog_3_method_5_code 15 = .ok (.isub, 1) := by decide +kernel
theorem d_L_pop_16 : decode prog_3_method_5_code 16 = .ok (.putfield 61, 3) := by decide +kernel
theorem d_L_pop_19 : decode prog_3_method_5_code 19 = .ok (.aload_n 0, 1) := by decide +kernel
theorem d_L_pop_20 : decode prog_3_method_5_code 20 = .ok (.getfield 9, 3) := by decide +kernel
theorem d_L_pop_23 : decode prog_3_method_5_code 23 = .ok (.aload_n 0, 1) := by decide +kernel
theorem d_L_pop_24 : decode prog_3_method_5_code 24 = .ok (.getfield 61, 3) := by decide +kernel
theorem d_L_pop_27 : decode prog_3_method_5_code 27 = .ok (.iaload, 1) := by decide +kernel
theorem d_L_pop_28 : decode prog_3_method_5_code 28 = .ok (.ireturn, 1) := by decide +kernel
theorem d_L_ofOne_0 : decode prog_3_method_8_code 0 = .ok (.iload_n 0, 1) := by decide +kernel
theorem d_L_ofOne_1 : decode prog_3_method_8_code 1 = .ok (.lookupswitch 76 #[(17, 35), (18, 57), (25, 72)], 35) := by decide +kernel
theorem d_L_ofOne_36 : decode prog_3_method_8_code 36 = .ok (.aload_n 2, 1) := by decide +kernel
theorem d_L_ofOne_37 : decode prog_3_method_8_code 37 = .ok (.iload_n 1, 1) := by decide +kernel
theorem d_L_ofOne_38 : decode prog_3_method_8_code 38 = .ok (.invokevirtual 101, 3) := by decide +kernel
theorem d_L_ofOne_41 : decode prog_3_method_8_code 41 = .ok (.ifCond .eq 15, 3) := by decide +kernel
theorem d_L_ofOne_44 : decode prog_3_method_8_code 44 = .ok (.aload_n 2, 1) := by decide +kernel
theorem d_L_ofOne_45 : decode prog_3_method_8_code 45 = .ok (.getfield 44, 3) := by decide +kernel
theorem d_L_ofOne_48 : decode prog_3_method_8_code 48 = .ok (.iload_n 1, 1) := by decide +kernel
theorem d_L_ofOne_49 : decode prog_3_method_8_code 49 = .ok (.iaload, 1) := by decide +kernel
theorem d_L_ofOne_50 : decode prog_3_method_8_code 50 = .ok (.invokestatic 49, 3) := by decide +kernel
theorem d_L_ofOne_53 : decode prog_3_method_8_code 53 = .ok (.goto 4, 3) := by decide +kernel
theorem d_L_ofOne_56 : decode prog_3_method_8_code 56 = .ok (.iconst 0, 1) := by decide +kernel
theorem d_L_ofOne_57 : decode prog_3_method_8_code 57 = .ok (.ireturn, 1) := by decide +kernel
theorem d_L_ofOne_58 : decode prog_3_method_8_code 58 = .ok (.aload_n 2, 1) := by decide +kernel
theorem d_L_ofOne_59 : decode prog_3_method_8_code 59 = .ok (.iload_n 3, 1) := by decide +kernel
theorem d_L_ofOne_60 : decode prog_3_method_8_code 60 = .ok (.iload_n 1, 1) := by decide +kernel
theorem d_L_ofOne_61 : decode prog_3_method_8_code 61 = .ok (.invokevirtual 105, 3) := by decide +kernel
theorem d_L_ofOne_64 : decode prog_3_method_8_code 64 = .ok (.ifCond .eq 7, 3) := by decide +kernel
theorem d_L_ofOne_67 : decode prog_3_method_8_code 67 = .ok (.iconst 1, 1) := by decide +kernel
theorem d_L_ofOne_68 : decode prog_3_method_8_code 68 = .ok (.goto 4, 3) := by decide +kernel
theorem d_L_ofOne_71 : decode prog_3_method_8_code 71 = .ok (.iconst 0, 1) := by decide +kernel
theorem d_L_ofOne_72 : decode prog_3_method_8_code 72 = .ok (.ireturn, 1) := by decide +kernel
theorem d_L_ofOne_73 : decode prog_3_method_8_code 73 = .ok (.iconst 1, 1) := by decide +kernel
theorem d_L_ofOne_74 : decode prog_3_method_8_code 74 = .ok (.iload_n 1, 1) := by decide +kernel
theorem d_L_ofOne_75 : decode prog_3_method_8_code 75 = .ok (.isub, 1) := by decide +kernel
theorem d_L_ofOne_76 : decode prog_3_method_8_code 76 = .ok (.ireturn, 1) := by decide +kernel
theorem d_L_ofOne_77 : decode prog_3_method_8_code 77 = .ok (.iload_n 1, 1) := by decide +kernel
theorem d_L_ofOne_78 : decode prog_3_method_8_code 78 = .ok (.ineg, 1) := by decide +kernel
theorem d_L_ofOne_79 : decode prog_3_method_8_code 79 = .ok (.ireturn, 1) := by decide +kernel
theorem d_L_named_0 : decode prog_3_method_7_code 0 = .ok (.aload_n 1, 1) := by decide +kernel
theorem d_L_named_1 : decode prog_3_method_7_code 1 = .ok (.getfield 44, 3) := by decide +kernel
theorem d_L_named_4 : decode prog_3_method_7_code 4 = .ok (.iload_n 2, 1) := by decide +kernel
theorem d_L_named_5 : decode prog_3_method_7_code 5 = .ok (.iaload, 1) := by decide +kernel
theorem d_L_named_6 : decode prog_3_method_7_code 6 = .ok (.istore 4, 2) := by decide +kernel
theorem d_L_named_8 : decode prog_3_method_7_code 8 = .ok (.iload_n 0, 1) := by decide +kernel
theorem d_L_named_9 : decode prog_3_method_7_code 9 = .ok (.lookupswitch 78 #[(6, 51), (26, 56), (27, 58), (28, 64), (29, 73)], 51) := by decide +kernel
theorem d_L_named_60 : decode prog_3_method_7_code 60 = .ok (.aload_n 1, 1) := by decide +kernel
theorem d_L_named_61 : decode prog_3_method_7_code 61 = .ok (.getfield 92, 3) := by decide +kernel
theorem d_L_named_64 : decode prog_3_method_7_code 64 = .ok (.ireturn, 1) := by decide +kernel
theorem d_L_named_65 : decode prog_3_method_7_code 65 = .ok (.iload_n 2, 1) := by decide +kernel
theorem d_L_named_66 : decode prog_3_method_7_code 66 = .ok (.ireturn, 1) := by decide +kernel
theorem d_L_named_67 : decode prog_3_method_7_code 67 = .ok (.iload 4, 2) := by decide +kernel
theorem d_L_named_69 : decode prog_3_method_7_code 69 = .ok (.invokestatic 49, 3) := by decide +kernel
theorem d_L_named_72 : decode prog_3_method_7_code 72 = .ok (.ireturn, 1) := by decide +kernel
theorem d_L_named_73 : decode prog_3_method_7_code 73 = .ok (.iload 4, 2) := by decide +kernel
theorem d_L_named_75 : decode prog_3_method_7_code 75 = .ok (.invokestatic 95, 3) := by decide +kernel
theorem d_L_named_78 : decode prog_3_method_7_code 78 = .ok (.invokestatic 49, 3) := by decide +kernel
theorem d_L_named_81 : decode prog_3_method_7_code 81 = .ok (.ireturn, 1) := by decide +kernel
theorem d_L_named_82 : decode prog_3_method_7_code 82 = .ok (.aload_n 1, 1) := by decide +kernel
theorem d_L_named_83 : decode prog_3_method_7_code 83 = .ok (.getfield 98, 3) := by decide +kernel
theorem d_L_named_86 : decode prog_3_method_7_code 86 = .ok (.ireturn, 1) := by decide +kernel
theorem d_L_named_87 : decode prog_3_method_7_code 87 = .ok (.iload_n 3, 1) := by decide +kernel
theorem d_L_named_88 : decode prog_3_method_7_code 88 = .ok (.ireturn, 1) := by decide +kernel
theorem d_K_oddPoints_0 : decode prog_7_method_5_code 0 = .ok (.iconst 0, 1) := by decide +kernel
theorem d_K_oddPoints_1 : decode prog_7_method_5_code 1 = .ok (.istore_n 1, 1) := by decide +kernel
theorem d_K_oddPoints_2 : decode prog_7_method_5_code 2 = .ok (.iconst 0, 1) := by decide +kernel
theorem d_K_oddPoints_3 : decode prog_7_method_5_code 3 = .ok (.istore_n 2, 1) := by decide +kernel
theorem d_K_oddPoints_4 : decode prog_7_method_5_code 4 = .ok (.iload_n 2, 1) := by decide +kernel
theorem d_K_oddPoints_5 : decode prog_7_method_5_code 5 = .ok (.bipush 20, 2) := by decide +kernel
theorem d_K_oddPoints_7 : decode prog_7_method_5_code 7 = .ok (.if_icmp .ge 26, 3) := by decide +kernel
theorem d_K_oddPoints_10 : decode prog_7_method_5_code 10 = .ok (.iload_n 0, 1) := by decide +kernel
theorem d_K_oddPoints_11 : decode prog_7_method_5_code 11 = .ok (.iload_n 2, 1) := by decide +kernel
theorem d_K_oddPoints_12 : decode prog_7_method_5_code 12 = .ok (.ishr, 1) := by decide +kernel
theorem d_K_oddPoints_13 : decode prog_7_method_5_code 13 = .ok (.iconst 1, 1) := by decide +kernel
theorem d_K_oddPoints_14 : decode prog_7_method_5_code 14 = .ok (.iand, 1) := by decide +kernel
theorem d_K_oddPoints_15 : decode prog_7_method_5_code 15 = .ok (.iconst 1, 1) := by decide +kernel
theorem d_K_oddPoints_16 : decode prog_7_method_5_code 16 = .ok (.if_icmp .ne 11, 3) := by decide +kernel
theorem d_K_oddPoints_19 : decode prog_7_method_5_code 19 = .ok (.iload_n 1, 1) := by decide +kernel
theorem d_K_oddPoints_20 : decode prog_7_method_5_code 20 = .ok (.getstatic 9, 3) := by decide +kernel
theorem d_K_oddPoints_23 : decode prog_7_method_5_code 23 = .ok (.iload_n 2, 1) := by decide +kernel
theorem d_K_oddPoints_24 : decode prog_7_method_5_code 24 = .ok (.iaload, 1) := by decide +kernel
theorem d_K_oddPoints_25 : decode prog_7_method_5_code 25 = .ok (.ixor, 1) := by decide +kernel
theorem d_K_oddPoints_26 : decode prog_7_method_5_code 26 = .ok (.istore_n 1, 1) := by decide +kernel
theorem d_K_oddPoints_27 : decode prog_7_method_5_code 27 = .ok (.iinc 2 1, 3) := by decide +kernel
theorem d_K_oddPoints_30 : decode prog_7_method_5_code 30 = .ok (.goto (-26), 3) := by decide +kernel
theorem d_K_oddPoints_33 : decode prog_7_method_5_code 33 = .ok (.iload_n 1, 1) := by decide +kernel
theorem d_K_oddPoints_34 : decode prog_7_method_5_code 34 = .ok (.ireturn, 1) := by decide +kernel
theorem d_L_ofTwo_0 : decode prog_3_method_9_code 0 = .ok (.iload_n 0, 1) := by decide +kernel
theorem d_L_ofTwo_1 : decode prog_3_method_9_code 1 = .ok (.tableswitch 135 23 39 #[127, 131, 135, 135, 135, 135, 135, 135, 135, 135, 135, 135, 135, 83, 92, 101, 110], 83) := by decide +kernel
theorem d_L_ofTwo_84 : decode prog_3_method_9_code 84 = .ok (.iload_n 1, 1) := by decide +kernel
theorem d_L_ofTwo_85 : decode prog_3_method_9_code 85 = .ok (.i2l, 1) := by decide +kernel
theorem d_L_ofTwo_86 : decode prog_3_method_9_code 86 = .ok (.iload_n 2, 1) := by decide +kernel
theorem d_L_ofTwo_87 : decode prog_3_method_9_code 87 = .ok (.i2l, 1) := by decide +kernel
theorem d_L_ofTwo_88 : decode prog_3_method_9_code 88 = .ok (.ladd, 1) := by decide +kernel
theorem d_L_ofTwo_89 : decode prog_3_method_9_code 89 = .ok (.invokestatic 109, 3) := by decide +kernel
theorem d_L_ofTwo_92 : decode prog_3_method_9_code 92 = .ok (.ireturn, 1) := by decide +kernel
theorem d_L_ofTwo_93 : decode prog_3_method_9_code 93 = .ok (.iload_n 1, 1) := by decide +kernel
theorem d_L_ofTwo_94 : decode prog_3_method_9_code 94 = .ok (.i2l, 1) := by decide +kernel
theorem d_L_ofTwo_95 : decode prog_3_method_9_code 95 = .ok (.iload_n 2, 1) := by decide +kernel
theorem d_L_ofTwo_96 : decode prog_3_method_9_code 96 = .ok (.i2l, 1) := by decide +kernel
theorem d_L_ofTwo_97 : decode prog_3_method_9_code 97 = .ok (.lsub, 1) := by decide +kernel
theorem d_L_ofTwo_98 : decode prog_3_method_9_code 98 = .ok (.invokestatic 109, 3) := by decide +kernel
theorem d_L_ofTwo_101 : decode prog_3_method_9_code 101 = .ok (.ireturn, 1) := by decide +kernel
theorem d_L_ofTwo_102 : decode prog_3_method_9_code 102 = .ok (.iload_n 1, 1) := by decide +kernel
theorem d_L_ofTwo_103 : decode prog_3_method_9_code 103 = .ok (.i2l, 1) := by decide +kernel
theorem d_L_ofTwo_104 : decode prog_3_method_9_code 104 = .ok (.iload_n 2, 1) := by decide +kernel
theorem d_L_ofTwo_105 : decode prog_3_method_9_code 105 = .ok (.i2l, 1) := by decide +kernel
theorem d_L_ofTwo_106 : decode prog_3_method_9_code 106 = .ok (.lmul, 1) := by decide +kernel
theorem d_L_ofTwo_107 : decode prog_3_method_9_code 107 = .ok (.invokestatic 109, 3) := by decide +kernel
theorem d_L_ofTwo_110 : decode prog_3_method_9_code 110 = .ok (.ireturn, 1) := by decide +kernel
theorem d_L_ofTwo_111 : decode prog_3_method_9_code 111 = .ok (.iload_n 2, 1) := by decide +kernel
theorem d_L_ofTwo_112 : decode prog_3_method_9_code 112 = .ok (.ifCond .ne 7, 3) := by decide +kernel
theorem d_L_ofTwo_115 : decode prog_3_method_9_code 115 = .ok (.iconst 0, 1) := by decide +kernel
theorem d_L_ofTwo_116 : decode prog_3_method_9_code 116 = .ok (.goto 11, 3) := by decide +kernel
theorem d_L_ofTwo_119 : decode prog_3_method_9_code 119 = .ok (.iload_n 1, 1) := by decide +kernel
theorem d_L_ofTwo_120 : decode prog_3_method_9_code 120 = .ok (.i2l, 1) := by decide +kernel
theorem d_L_ofTwo_121 : decode prog_3_method_9_code 121 = .ok (.iload_n 2, 1) := by decide +kernel
theorem d_L_ofTwo_122 : decode prog_3_method_9_code 122 = .ok (.i2l, 1) := by decide +kernel
theorem d_L_ofTwo_123 : decode prog_3_method_9_code 123 = .ok (.ldiv, 1) := by decide +kernel
theorem d_L_ofTwo_124 : decode prog_3_method_9_code 124 = .ok (.invokestatic 109, 3) := by decide +kernel
theorem d_L_ofTwo_127 : decode prog_3_method_9_code 127 = .ok (.ireturn, 1) := by decide +kernel
theorem d_L_ofTwo_128 : decode prog_3_method_9_code 128 = .ok (.iload_n 1, 1) := by decide +kernel
theorem d_L_ofTwo_129 : decode prog_3_method_9_code 129 = .ok (.iload_n 2, 1) := by decide +kernel
theorem d_L_ofTwo_130 : decode prog_3_method_9_code 130 = .ok (.ior, 1) := by decide +kernel
theorem d_L_ofTwo_131 : decode prog_3_method_9_code 131 = .ok (.ireturn, 1) := by decide +kernel
theorem d_L_ofTwo_132 : decode prog_3_method_9_code 132 = .ok (.iload_n 1, 1) := by decide +kernel
theorem d_L_ofTwo_133 : decode prog_3_method_9_code 133 = .ok (.iload_n 2, 1) := by decide +kernel
theorem d_L_ofTwo_134 : decode prog_3_method_9_code 134 = .ok (.iand, 1) := by decide +kernel
theorem d_L_ofTwo_135 : decode prog_3_method_9_code 135 = .ok (.ireturn, 1) := by decide +kernel
theorem d_L_ofTwo_136 : decode prog_3_method_9_code 136 = .ok (.iload_n 0, 1) := by decide +kernel
theorem d_L_ofTwo_137 : decode prog_3_method_9_code 137 = .ok (.iload_n 1, 1) := by decide +kernel
theorem d_L_ofTwo_138 : decode prog_3_method_9_code 138 = .ok (.iload_n 2, 1) := by decide +kernel
theorem d_L_ofTwo_139 : decode prog_3_method_9_code 139 = .ok (.invokestatic 113, 3) := by decide +kernel
theorem d_L_ofTwo_142 : decode prog_3_method_9_code 142 = .ok (.ifCond .eq 7, 3) := by decide +kernel
theorem d_L_ofTwo_145 : decode prog_3_method_9_code 145 = .ok (.iconst 1, 1) := by decide +kernel
theorem d_L_ofTwo_146 : decode prog_3_method_9_code 146 = .ok (.goto 4, 3) := by decide +kernel
theorem d_L_ofTwo_149 : decode prog_3_method_9_code 149 = .ok (.iconst 0, 1) := by decide +kernel
theorem d_L_ofTwo_150 : decode prog_3_method_9_code 150 = .ok (.ireturn, 1) := by decide +kernel
theorem d_L_hold_0 : decode prog_3_method_11_code 0 = .ok (.ldc2_w 117, 3) := by decide +kernel
theorem d_L_hold_3 : decode prog_3_method_11_code 3 = .ok (.ldc2_w 119, 3) := by decide +kernel
theorem d_L_hold_6 : decode prog_3_method_11_code 6 = .ok (.lload_n 0, 1) := by decide +kernel
theorem d_L_hold_7 : decode prog_3_method_11_code 7 = .ok (.invokestatic 121, 3) := by decide +kernel
theorem d_L_hold_10 : decode prog_3_method_11_code 10 = .ok (.invokestatic 124, 3) := by decide +kernel
theorem d_L_hold_13 : decode prog_3_method_11_code 13 = .ok (.l2i, 1) := by decide +kernel
theorem d_L_hold_14 : decode prog_3_method_11_code 14 = .ok (.ireturn, 1) := by decide +kernel
theorem d_JM_min_JJJ_0 : decode prog_14_method_70_code 0 = .ok (.lload_n 0, 1) := by decide +kernel
theorem d_JM_min_JJJ_1 : decode prog_14_method_70_code 1 = .ok (.lload_n 2, 1) := by decide +kernel
theorem d_JM_min_JJJ_2 : decode prog_14_method_70_code 2 = .ok (.lcmp, 1) := by decide +kernel
theorem d_JM_min_JJJ_3 : decode prog_14_method_70_code 3 = .ok (.ifCond .gt 7, 3) := by decide +kernel
theorem d_JM_min_JJJ_6 : decode prog_14_method_70_code 6 = .ok (.lload_n 0, 1) := by decide +kernel
theorem d_JM_min_JJJ_7 : decode prog_14_method_70_code 7 = .ok (.goto 4, 3) := by decide +kernel
theorem d_JM_min_JJJ_10 : decode prog_14_method_70_code 10 = .ok (.lload_n 2, 1) := by decide +kernel
theorem d_JM_min_JJJ_11 : decode prog_14_method_70_code 11 = .ok (.lreturn, 1) := by decide +kernel
theorem d_JM_max_JJJ_0 : decode prog_14_method_66_code 0 = .ok (.lload_n 0, 1) := by decide +kernel
theorem d_JM_max_JJJ_1 : decode prog_14_method_66_code 1 = .ok (.lload_n 2, 1) := by decide +kernel
theorem d_JM_max_JJJ_2 : decode prog_14_method_66_code 2 = .ok (.lcmp, 1) := by decide +kernel
theorem d_JM_max_JJJ_3 : decode prog_14_method_66_code 3 = .ok (.ifCond .lt 7, 3) := by decide +kernel
theorem d_JM_max_JJJ_6 : decode prog_14_method_66_code 6 = .ok (.lload_n 0, 1) := by decide +kernel
theorem d_JM_max_JJJ_7 : decode prog_14_method_66_code 7 = .ok (.goto 4, 3) := by decide +kernel
theorem d_JM_max_JJJ_10 : decode prog_14_method_66_code 10 = .ok (.lload_n 2, 1) := by decide +kernel
theorem d_JM_max_JJJ_11 : decode prog_14_method_66_code 11 = .ok (.lreturn, 1) := by decide +kernel
theorem d_L_compares_0 : decode prog_3_method_10_code 0 = .ok (.iload_n 0, 1) := by decide +kernel
theorem d_L_compares_1 : decode prog_3_method_10_code 1 = .ok (.tableswitch 122 32 44 #[67, 89, 111, 122, 122, 122, 122, 122, 122, 122, 122, 78, 100], 67) := by decide +kernel
theorem d_L_compares_68 : decode prog_3_method_10_code 68 = .ok (.iload_n 1, 1) := by decide +kernel
theorem d_L_compares_69 : decode prog_3_method_10_code 69 = .ok (.iload_n 2, 1) := by decide +kernel
theorem d_L_compares_70 : decode prog_3_method_10_code 70 = .ok (.if_icmp .ge 7, 3) := by decide +kernel
theorem d_L_compares_73 : decode prog_3_method_10_code 73 = .ok (.iconst 1, 1) := by decide +kernel
theorem d_L_compares_74 : decode prog_3_method_10_code 74 = .ok (.goto 4, 3) := by decide +kernel
theorem d_L_compares_77 : decode prog_3_method_10_code 77 = .ok (.iconst 0, 1) := by decide +kernel
theorem d_L_compares_78 : decode prog_3_method_10_code 78 = .ok (.ireturn, 1) := by decide +kernel
theorem d_L_compares_79 : decode prog_3_method_10_code 79 = .ok (.iload_n 1, 1) := by decide +kernel
theorem d_L_compares_80 : decode prog_3_method_10_code 80 = .ok (.iload_n 2, 1) := by decide +kernel
theorem d_L_compares_81 : decode prog_3_method_10_code 81 = .ok (.if_icmp .gt 7, 3) := by decide +kernel
theorem d_L_compares_84 : decode prog_3_method_10_code 84 = .ok (.iconst 1, 1) := by decide +kernel
theorem d_L_compares_85 : decode prog_3_method_10_code 85 = .ok (.goto 4, 3) := by decide +kernel
theorem d_L_compares_88 : decode prog_3_method_10_code 88 = .ok (.iconst 0, 1) := by decide +kernel
theorem d_L_compares_89 : decode prog_3_method_10_code 89 = .ok (.ireturn, 1) := by decide +kernel
theorem d_L_compares_90 : decode prog_3_method_10_code 90 = .ok (.iload_n 1, 1) := by decide +kernel
theorem d_L_compares_91 : decode prog_3_method_10_code 91 = .ok (.iload_n 2, 1) := by decide +kernel
theorem d_L_compares_92 : decode prog_3_method_10_code 92 = .ok (.if_icmp .le 7, 3) := by decide +kernel
theorem d_L_compares_95 : decode prog_3_method_10_code 95 = .ok (.iconst 1, 1) := by decide +kernel
theorem d_L_compares_96 : decode prog_3_method_10_code 96 = .ok (.goto 4, 3) := by decide +kernel
theorem d_L_compares_99 : decode prog_3_method_10_code 99 = .ok (.iconst 0, 1) := by decide +kernel
theorem d_L_compares_100 : decode prog_3_method_10_code 100 = .ok (.ireturn, 1) := by decide +kernel
theorem d_L_compares_101 : decode prog_3_method_10_code 101 = .ok (.iload_n 1, 1) := by decide +kernel
theorem d_L_compares_102 : decode prog_3_method_10_code 102 = .ok (.iload_n 2, 1) := by decide +kernel
theorem d_L_compares_103 : decode prog_3_method_10_code 103 = .ok (.if_icmp .lt 7, 3) := by decide +kernel
theorem d_L_compares_106 : decode prog_3_method_10_code 106 = .ok (.iconst 1, 1) := by decide +kernel
theorem d_L_compares_107 : decode prog_3_method_10_code 107 = .ok (.goto 4, 3) := by decide +kernel
theorem d_L_compares_110 : decode prog_3_method_10_code 110 = .ok (.iconst 0, 1) := by decide +kernel
theorem d_L_compares_111 : decode prog_3_method_10_code 111 = .ok (.ireturn, 1) := by decide +kernel
theorem d_L_compares_112 : decode prog_3_method_10_code 112 = .ok (.iload_n 1, 1) := by decide +kernel
theorem d_L_compares_113 : decode prog_3_method_10_code 113 = .ok (.iload_n 2, 1) := by decide +kernel
theorem d_L_compares_114 : decode prog_3_method_10_code 114 = .ok (.if_icmp .ne 7, 3) := by decide +kernel
theorem d_L_compares_117 : decode prog_3_method_10_code 117 = .ok (.iconst 1, 1) := by decide +kernel
theorem d_L_compares_118 : decode prog_3_method_10_code 118 = .ok (.goto 4, 3) := by decide +kernel
theorem d_L_compares_121 : decode prog_3_method_10_code 121 = .ok (.iconst 0, 1) := by decide +kernel
theorem d_L_compares_122 : decode prog_3_method_10_code 122 = .ok (.ireturn, 1) := by decide +kernel
theorem d_L_compares_123 : decode prog_3_method_10_code 123 = .ok (.iload_n 1, 1) := by decide +kernel
theorem d_L_compares_124 : decode prog_3_method_10_code 124 = .ok (.iload_n 2, 1) := by decide +kernel
theorem d_L_compares_125 : decode prog_3_method_10_code 125 = .ok (.if_icmp .eq 7, 3) := by decide +kernel
theorem d_L_compares_128 : decode prog_3_method_10_code 128 = .ok (.iconst 1, 1) := by decide +kernel
theorem d_L_compares_129 : decode prog_3_method_10_code 129 = .ok (.goto 4, 3) := by decide +kernel
theorem d_L_compares_132 : decode prog_3_method_10_code 132 = .ok (.iconst 0, 1) := by decide +kernel
theorem d_L_compares_133 : decode prog_3_method_10_code 133 = .ok (.ireturn, 1) := by decide +kernel
theorem d_N_nextX_0 : decode prog_4_method_9_code 0 = .ok (.aload_n 0, 1) := by decide +kernel
theorem d_N_nextX_1 : decode prog_4_method_9_code 1 = .ok (.getfield 15, 3) := by decide +kernel
theorem d_N_nextX_4 : decode prog_4_method_9_code 4 = .ok (.istore_n 1, 1) := by decide +kernel
theorem d_N_nextX_5 : decode prog_4_method_9_code 5 = .ok (.aload_n 0, 1) := by decide +kernel
theorem d_N_nextX_6 : decode prog_4_method_9_code 6 = .ok (.aload_n 0, 1) := by decide +kernel
theorem d_N_nextX_7 : decode prog_4_method_9_code 7 = .ok (.getfield 15, 3) := by decide +kernel
theorem d_N_nextX_10 : decode prog_4_method_9_code 10 = .ok (.sipush 677, 3) := by decide +kernel
theorem d_N_nextX_13 : decode prog_4_method_9_code 13 = .ok (.imul, 1) := by decide +kernel
theorem d_N_nextX_14 : decode prog_4_method_9_code 14 = .ok (.sipush 557, 3) := by decide +kernel
theorem d_N_nextX_17 : decode prog_4_method_9_code 17 = .ok (.iadd, 1) := by decide +kernel
theorem d_N_nextX_18 : decode prog_4_method_9_code 18 = .ok (.sipush 30983, 3) := by decide +kernel
theorem d_N_nextX_21 : decode prog_4_method_9_code 21 = .ok (.irem, 1) := by decide +kernel
theorem d_N_nextX_22 : decode prog_4_method_9_code 22 = .ok (.putfield 15, 3) := by decide +kernel
theorem d_N_nextX_25 : decode prog_4_method_9_code 25 = .ok (.iload_n 1, 1) := by decide +kernel
theorem d_N_nextX_26 : decode prog_4_method_9_code 26 = .ok (.ireturn, 1) := by decide +kernel
theorem d_L_wearsBy_0 : decode prog_3_method_2_code 0 = .ok (.aload_n 1, 1) := by decide +kernel
theorem d_L_wearsBy_1 : decode prog_3_method_2_code 1 = .ok (.ifnull 10, 3) := by decide +kernel
theorem d_L_wearsBy_4 : decode prog_3_method_2_code 4 = .ok (.aload_n 1, 1) := by decide +kernel
theorem d_L_wearsBy_5 : decode prog_3_method_2_code 5 = .ok (.getfield 15, 3) := by decide +kernel
theorem d_L_wearsBy_8 : decode prog_3_method_2_code 8 = .ok (.ifCond .ne 5, 3) := by decide +kernel
theorem d_L_wearsBy_11 : decode prog_3_method_2_code 11 = .ok (.iconst 3, 1) := by decide +kernel
theorem d_L_wearsBy_12 : decode prog_3_method_2_code 12 = .ok (.ireturn, 1) := by decide +kernel
theorem d_L_wearsBy_13 : decode prog_3_method_2_code 13 = .ok (.aload_n 0, 1) := by decide +kernel
theorem d_L_wearsBy_14 : decode prog_3_method_2_code 14 = .ok (.aload_n 1, 1) := by decide +kernel
theorem d_L_wearsBy_15 : decode prog_3_method_2_code 15 = .ok (.aload_n 1, 1) := by decide +kernel
theorem d_L_wearsBy_16 : decode prog_3_method_2_code 16 = .ok (.getfield 21, 3) := by decide +kernel
theorem d_L_wearsBy_19 : decode prog_3_method_2_code 19 = .ok (.aload_n 1, 1) := by decide +kernel
theorem d_L_wearsBy_20 : decode prog_3_method_2_code 20 = .ok (.getfield 25, 3) := by decide +kernel
theorem d_L_wearsBy_23 : decode prog_3_method_2_code 23 = .ok (.aload_n 2, 1) := by decide +kernel
theorem d_L_wearsBy_24 : decode prog_3_method_2_code 24 = .ok (.iload_n 3, 1) := by decide +kernel
theorem d_L_wearsBy_25 : decode prog_3_method_2_code 25 = .ok (.iload 4, 2) := by decide +kernel
theorem d_L_wearsBy_27 : decode prog_3_method_2_code 27 = .ok (.invokevirtual 28, 3) := by decide +kernel
theorem d_L_wearsBy_30 : decode prog_3_method_2_code 30 = .ok (.istore 5, 2) := by decide +kernel
theorem d_L_wearsBy_32 : decode prog_3_method_2_code 32 = .ok (.iconst 0, 1) := by decide +kernel
theorem d_L_wearsBy_33 : decode prog_3_method_2_code 33 = .ok (.bipush 10, 2) := by decide +kernel
theorem d_L_wearsBy_35 : decode prog_3_method_2_code 35 = .ok (.iload 5, 2) := by decide +kernel
theorem d_L_wearsBy_37 : decode prog_3_method_2_code 37 = .ok (.invokestatic 32, 3) := by decide +kernel
theorem d_L_wearsBy_40 : decode prog_3_method_2_code 40 = .ok (.invokestatic 38, 3) := by decide +kernel
theorem d_L_wearsBy_43 : decode prog_3_method_2_code 43 = .ok (.ireturn, 1) := by decide +kernel
theorem d_O_played_0 : decode prog_1_method_12_code 0 = .ok (.aload_n 0, 1) := by decide +kernel
theorem d_O_played_1 : decode prog_1_method_12_code 1 = .ok (.iload_n 1, 1) := by decide +kernel
theorem d_O_played_2 : decode prog_1_method_12_code 2 = .ok (.invokevirtual 97, 3) := by decide +kernel
theorem d_O_played_5 : decode prog_1_method_12_code 5 = .ok (.ifCond .ne 6, 3) := by decide +kernel
theorem d_O_played_8 : decode prog_1_method_12_code 8 = .ok (.bipush (-2), 2) := by decide +kernel
theorem d_O_played_10 : decode prog_1_method_12_code 10 = .ok (.ireturn, 1) := by decide +kernel
theorem d_O_played_11 : decode prog_1_method_12_code 11 = .ok (.aload_n 0, 1) := by decide +kernel
theorem d_O_played_12 : decode prog_1_method_12_code 12 = .ok (.getfield 25, 3) := by decide +kernel
theorem d_O_played_15 : decode prog_1_method_12_code 15 = .ok (.iload_n 1, 1) := by decide +kernel
theorem d_O_played_16 : decode prog_1_method_12_code 16 = .ok (.aaload, 1) := by decide +kernel
theorem d_O_played_17 : decode prog_1_method_12_code 17 = .ok (.astore_n 2, 1) := by decide +kernel
theorem d_O_played_18 : decode prog_1_method_12_code 18 = .ok (.iconst 0, 1) := by decide +kernel
theorem d_O_played_19 : decode prog_1_method_12_code 19 = .ok (.istore_n 3, 1) := by decide +kernel
theorem d_O_played_20 : decode prog_1_method_12_code 20 = .ok (.iload_n 3, 1) := by decide +kernel
theorem d_O_played_21 : decode prog_1_method_12_code 21 = .ok (.aload_n 2, 1) := by decide +kernel
theorem d_O_played_22 : decode prog_1_method_12_code 22 = .ok (.getfield 119, 3) := by decide +kernel
theorem d_O_played_25 : decode prog_1_method_12_code 25 = .ok (.if_icmp .ge 102, 3) := by decide +kernel
theorem d_O_played_28 : decode prog_1_method_12_code 28 = .ok (.aload_n 2, 1) := by decide +kernel
theorem d_O_played_29 : decode prog_1_method_12_code 29 = .ok (.getfield 122, 3) := by decide +kernel
theorem d_O_played_32 : decode prog_1_method_12_code 32 = .ok (.iload_n 3, 1) := by decide +kernel
theorem d_O_played_33 : decode prog_1_method_12_code 33 = .ok (.iaload, 1) := by decide +kernel
theorem d_O_played_34 : decode prog_1_method_12_code 34 = .ok (.istore 4, 2) := by decide +kernel
theorem d_O_played_36 : decode prog_1_method_12_code 36 = .ok (.aload_n 2, 1) := by decide +kernel
theorem d_O_played_37 : decode prog_1_method_12_code 37 = .ok (.getfield 125, 3) := by decide +kernel
theorem d_O_played_40 : decode prog_1_method_12_code 40 = .ok (.iload_n 3, 1) := by decide +kernel
theorem d_O_played_41 : decode prog_1_method_12_code 41 = .ok (.iaload, 1) := by decide +kernel
theorem d_O_played_42 : decode prog_1_method_12_code 42 = .ok (.bipush 6, 2) := by decide +kernel
theorem d_O_played_44 : decode prog_1_method_12_code 44 = .ok (.if_icmp .ne 50, 3) := by decide +kernel
theorem d_O_played_47 : decode prog_1_method_12_code 47 = .ok (.aload_n 0, 1) := by decide +kernel
theorem d_O_played_48 : decode prog_1_method_12_code 48 = .ok (.getfield 48, 3) := by decide +kernel
theorem d_O_played_51 : decode prog_1_method_12_code 51 = .ok (.getfield 110, 3) := by decide +kernel
theorem d_O_played_54 : decode prog_1_method_12_code 54 = .ok (.getfield 113, 3) := by decide +kernel
theorem d_O_played_57 : decode prog_1_method_12_code 57 = .ok (.istore 6, 2) := by decide +kernel
theorem d_O_played_59 : decode prog_1_method_12_code 59 = .ok (.aload_n 0, 1) := by decide +kernel
theorem d_O_played_60 : decode prog_1_method_12_code 60 = .ok (.iload 4, 2) := by decide +kernel
theorem d_O_played_62 : decode prog_1_method_12_code 62 = .ok (.invokevirtual 116, 3) := by decide +kernel
theorem d_O_played_65 : decode prog_1_method_12_code 65 = .ok (.pop, 1) := by decide +kernel
theorem d_O_played_66 : decode prog_1_method_12_code 66 = .ok (.aload_n 0, 1) := by decide +kernel
theorem d_O_played_67 : decode prog_1_method_12_code 67 = .ok (.getfield 48, 3) := by decide +kernel
theorem d_O_played_70 : decode prog_1_method_12_code 70 = .ok (.getfield 110, 3) := by decide +kernel
theorem d_O_played_73 : decode prog_1_method_12_code 73 = .ok (.getfield 113, 3) := by decide +kernel
theorem d_O_played_76 : decode prog_1_method_12_code 76 = .ok (.iload 6, 2) := by decide +kernel
theorem d_O_played_78 : decode prog_1_method_12_code 78 = .ok (.iload 4, 2) := by decide +kernel
theorem d_O_played_80 : decode prog_1_method_12_code 80 = .ok (.iadd, 1) := by decide +kernel
theorem d_O_played_81 : decode prog_1_method_12_code 81 = .ok (.if_icmp .ne 7, 3) := by decide +kernel
theorem d_O_played_84 : decode prog_1_method_12_code 84 = .ok (.iconst 1, 1) := by decide +kernel
theorem d_O_played_85 : decode prog_1_method_12_code 85 = .ok (.goto 4, 3) := by decide +kernel
theorem d_O_played_88 : decode prog_1_method_12_code 88 = .ok (.iconst 0, 1) := by decide +kernel
theorem d_O_played_89 : decode prog_1_method_12_code 89 = .ok (.istore 5, 2) := by decide +kernel
theorem d_O_played_91 : decode prog_1_method_12_code 91 = .ok (.goto 23, 3) := by decide +kernel
theorem d_O_played_94 : decode prog_1_method_12_code 94 = .ok (.aload_n 0, 1) := by decide +kernel
theorem d_O_played_95 : decode prog_1_method_12_code 95 = .ok (.aload_n 2, 1) := by decide +kernel
theorem d_O_played_96 : decode prog_1_method_12_code 96 = .ok (.getfield 125, 3) := by decide +kernel
theorem d_O_played_99 : decode prog_1_method_12_code 99 = .ok (.iload_n 3, 1) := by decide +kernel
theorem d_O_played_100 : decode prog_1_method_12_code 100 = .ok (.iaload, 1) := by decide +kernel
theorem d_O_played_101 : decode prog_1_method_12_code 101 = .ok (.iload 4, 2) := by decide +kernel
theorem d_O_played_103 : decode prog_1_method_12_code 103 = .ok (.aload_n 2, 1) := by decide +kernel
theorem d_O_played_104 : decode prog_1_method_12_code 104 = .ok (.getfield 128, 3) := by decide +kernel
theorem d_O_played_107 : decode prog_1_method_12_code 107 = .ok (.iload_n 3, 1) := by decide +kernel
theorem d_O_played_108 : decode prog_1_method_12_code 108 = .ok (.iaload, 1) := by decide +kernel
theorem d_O_played_109 : decode prog_1_method_12_code 109 = .ok (.invokevirtual 131, 3) := by decide +kernel
theorem d_O_played_112 : decode prog_1_method_12_code 112 = .ok (.istore 5, 2) := by decide +kernel
theorem d_O_played_114 : decode prog_1_method_12_code 114 = .ok (.iload 5, 2) := by decide +kernel
theorem d_O_played_116 : decode prog_1_method_12_code 116 = .ok (.ifCond .ne 5, 3) := by decide +kernel
theorem d_O_played_119 : decode prog_1_method_12_code 119 = .ok (.iload_n 3, 1) := by decide +kernel
theorem d_O_played_120 : decode prog_1_method_12_code 120 = .ok (.ireturn, 1) := by decide +kernel
theorem d_O_played_121 : decode prog_1_method_12_code 121 = .ok (.iinc 3 1, 3) := by decide +kernel
theorem d_O_played_124 : decode prog_1_method_12_code 124 = .ok (.goto (-104), 3) := by decide +kernel
theorem d_O_played_127 : decode prog_1_method_12_code 127 = .ok (.iconst (-1), 1) := by decide +kernel
theorem d_O_played_128 : decode prog_1_method_12_code 128 = .ok (.ireturn, 1) := by decide +kernel
theorem d_O_isDone_0 : decode prog_1_method_62_code 0 = .ok (.iload_n 1, 1) := by decide +kernel
theorem d_O_isDone_1 : decode prog_1_method_62_code 1 = .ok (.tableswitch 80 2 5 #[31, 49, 57, 65], 31) := by decide +kernel
theorem d_O_isDone_32 : decode prog_1_method_62_code 32 = .ok (.aload_n 0, 1) := by decide +kernel
theorem d_O_isDone_33 : decode prog_1_method_62_code 33 = .ok (.getfield 48, 3) := by decide +kernel
theorem d_O_isDone_36 : decode prog_1_method_62_code 36 = .ok (.iload_n 2, 1) := by decide +kernel
theorem d_O_isDone_37 : decode prog_1_method_62_code 37 = .ok (.invokevirtual 77, 3) := by decide +kernel
theorem d_O_isDone_40 : decode prog_1_method_62_code 40 = .ok (.iconst (-1), 1) := by decide +kernel
theorem d_O_isDone_41 : decode prog_1_method_62_code 41 = .ok (.if_icmp .eq 7, 3) := by decide +kernel
theorem d_O_isDone_44 : decode prog_1_method_62_code 44 = .ok (.iconst 1, 1) := by decide +kernel
theorem d_O_isDone_45 : decode prog_1_method_62_code 45 = .ok (.goto 4, 3) := by decide +kernel
theorem d_O_isDone_48 : decode prog_1_method_62_code 48 = .ok (.iconst 0, 1) := by decide +kernel
theorem d_O_isDone_49 : decode prog_1_method_62_code 49 = .ok (.ireturn, 1) := by decide +kernel
theorem d_O_isDone_50 : decode prog_1_method_62_code 50 = .ok (.aload_n 0, 1) := by decide +kernel
theorem d_O_isDone_51 : decode prog_1_method_62_code 51 = .ok (.iload_n 3, 1) := by decide +kernel
theorem d_O_isDone_52 : decode prog_1_method_62_code 52 = .ok (.iload_n 2, 1) := by decide +kernel
theorem d_O_isDone_53 : decode prog_1_method_62_code 53 = .ok (.iconst 1, 1) := by decide +kernel
theorem d_O_isDone_54 : decode prog_1_method_62_code 54 = .ok (.invokevirtual 103, 3) := by decide +kernel
theorem d_O_isDone_57 : decode prog_1_method_62_code 57 = .ok (.ireturn, 1) := by decide +kernel
theorem d_O_isDone_58 : decode prog_1_method_62_code 58 = .ok (.aload_n 0, 1) := by decide +kernel
theorem d_O_isDone_59 : decode prog_1_method_62_code 59 = .ok (.iload_n 3, 1) := by decide +kernel
theorem d_O_isDone_60 : decode prog_1_method_62_code 60 = .ok (.iload_n 2, 1) := by decide +kernel
theorem d_O_isDone_61 : decode prog_1_method_62_code 61 = .ok (.iconst 0, 1) := by decide +kernel
theorem d_O_isDone_62 : decode prog_1_method_62_code 62 = .ok (.invokevirtual 103, 3) := by decide +kernel
theorem d_O_isDone_65 : decode prog_1_method_62_code 65 = .ok (.ireturn, 1) := by decide +kernel
theorem d_O_isDone_66 : decode prog_1_method_62_code 66 = .ok (.aload_n 0, 1) := by decide +kernel
theorem d_O_isDone_67 : decode prog_1_method_62_code 67 = .ok (.iload_n 2, 1) := by decide +kernel
theorem d_O_isDone_68 : decode prog_1_method_62_code 68 = .ok (.invokevirtual 107, 3) := by decide +kernel
theorem d_O_isDone_71 : decode prog_1_method_62_code 71 = .ok (.iconst (-1), 1) := by decide +kernel
theorem d_O_isDone_72 : decode prog_1_method_62_code 72 = .ok (.if_icmp .eq 7, 3) := by decide +kernel
theorem d_O_isDone_75 : decode prog_1_method_62_code 75 = .ok (.iconst 1, 1) := by decide +kernel
theorem d_O_isDone_76 : decode prog_1_method_62_code 76 = .ok (.goto 4, 3) := by decide +kernel
theorem d_O_isDone_79 : decode prog_1_method_62_code 79 = .ok (.iconst 0, 1) := by decide +kernel
theorem d_O_isDone_80 : decode prog_1_method_62_code 80 = .ok (.ireturn, 1) := by decide +kernel
theorem d_O_isDone_81 : decode prog_1_method_62_code 81 = .ok (.iconst 1, 1) := by decide +kernel
theorem d_O_isDone_82 : decode prog_1_method_62_code 82 = .ok (.ireturn, 1) := by decide +kernel
theorem d_O_ages_0 : decode prog_1_method_13_code 0 = .ok (.iload_n 1, 1) := by decide +kernel
theorem d_O_ages_1 : decode prog_1_method_13_code 1 = .ok (.ifCond .lt 21, 3) := by decide +kernel
theorem d_O_ages_4 : decode prog_1_method_13_code 4 = .ok (.iload_n 1, 1) := by decide +kernel
theorem d_O_ages_5 : decode prog_1_method_13_code 5 = .ok (.sipush 9999, 3) := by decide +kernel
theorem d_O_ages_8 : decode prog_1_method_13_code 8 = .ok (.if_icmp .gt 14, 3) := by decide +kernel
theorem d_O_ages_11 : decode prog_1_method_13_code 11 = .ok (.iload_n 2, 1) := by decide +kernel
theorem d_O_ages_12 : decode prog_1_method_13_code 12 = .ok (.iconst 1, 1) := by decide +kernel
theorem d_O_ages_13 : decode prog_1_method_13_code 13 = .ok (.if_icmp .lt 9, 3) := by decide +kernel
theorem d_O_ages_16 : decode prog_1_method_13_code 16 = .ok (.iload_n 2, 1) := by decide +kernel
theorem d_O_ages_17 : decode prog_1_method_13_code 17 = .ok (.bipush 40, 2) := by decide +kernel
theorem d_O_ages_19 : decode prog_1_method_13_code 19 = .ok (.if_icmp .le 5, 3) := by decide +kernel
theorem d_O_ages_22 : decode prog_1_method_13_code 22 = .ok (.iconst (-1), 1) := by decide +kernel
theorem d_O_ages_23 : decode prog_1_method_13_code 23 = .ok (.ireturn, 1) := by decide +kernel
theorem d_O_ages_24 : decode prog_1_method_13_code 24 = .ok (.aload_n 0, 1) := by decide +kernel
theorem d_O_ages_25 : decode prog_1_method_13_code 25 = .ok (.getfield 48, 3) := by decide +kernel
theorem d_O_ages_28 : decode prog_1_method_13_code 28 = .ok (.getfield 135, 3) := by decide +kernel
theorem d_O_ages_31 : decode prog_1_method_13_code 31 = .ok (.aload_n 0, 1) := by decide +kernel
theorem d_O_ages_32 : decode prog_1_method_13_code 32 = .ok (.getfield 48, 3) := by decide +kernel
theorem d_O_ages_35 : decode prog_1_method_13_code 35 = .ok (.getfield 110, 3) := by decide +kernel
theorem d_O_ages_38 : decode prog_1_method_13_code 38 = .ok (.invokevirtual 139, 3) := by decide +kernel
theorem d_O_ages_41 : decode prog_1_method_13_code 41 = .ok (.aload_n 0, 1) := by decide +kernel
theorem d_O_ages_42 : decode prog_1_method_13_code 42 = .ok (.getfield 48, 3) := by decide +kernel
theorem d_O_ages_45 : decode prog_1_method_13_code 45 = .ok (.getfield 110, 3) := by decide +kernel
theorem d_O_ages_48 : decode prog_1_method_13_code 48 = .ok (.iload_n 1, 1) := by decide +kernel
theorem d_O_ages_49 : decode prog_1_method_13_code 49 = .ok (.iconst 2, 1) := by decide +kernel
theorem d_O_ages_50 : decode prog_1_method_13_code 50 = .ok (.imul, 1) := by decide +kernel
theorem d_O_ages_51 : decode prog_1_method_13_code 51 = .ok (.sipush 431, 3) := by decide +kernel
theorem d_O_ages_54 : decode prog_1_method_13_code 54 = .ok (.iadd, 1) := by decide +kernel
theorem d_O_ages_55 : decode prog_1_method_13_code 55 = .ok (.putfield 145, 3) := by decide +kernel
theorem d_O_ages_58 : decode prog_1_method_13_code 58 = .ok (.iconst 0, 1) := by decide +kernel
theorem d_O_ages_59 : decode prog_1_method_13_code 59 = .ok (.istore_n 3, 1) := by decide +kernel
theorem d_O_ages_60 : decode prog_1_method_13_code 60 = .ok (.iload_n 3, 1) := by decide +kernel
theorem d_O_ages_61 : decode prog_1_method_13_code 61 = .ok (.iload_n 2, 1) := by decide +kernel
theorem d_O_ages_62 : decode prog_1_method_13_code 62 = .ok (.if_icmp .ge 77, 3) := by decide +kernel
theorem d_O_ages_65 : decode prog_1_method_13_code 65 = .ok (.aload_n 0, 1) := by decide +kernel
theorem d_O_ages_66 : decode prog_1_method_13_code 66 = .ok (.getfield 48, 3) := by decide +kernel
theorem d_O_ages_69 : decode prog_1_method_13_code 69 = .ok (.getfield 110, 3) := by decide +kernel
theorem d_O_ages_72 : decode prog_1_method_13_code 72 = .ok (.invokevirtual 148, 3) := by decide +kernel
theorem d_O_ages_75 : decode prog_1_method_13_code 75 = .ok (.istore 4, 2) := by decide +kernel
theorem d_O_ages_77 : decode prog_1_method_13_code 77 = .ok (.iload 4, 2) := by decide +kernel
theorem d_O_ages_79 : decode prog_1_method_13_code 79 = .ok (.bipush 6, 2) := by decide +kernel
theorem d_O_ages_81 : decode prog_1_method_13_code 81 = .ok (.irem, 1) := by decide +kernel
theorem d_O_ages_82 : decode prog_1_method_13_code 82 = .ok (.iconst 4, 1) := by decide +kernel
theorem d_O_ages_83 : decode prog_1_method_13_code 83 = .ok (.if_icmp .ge 15, 3) := by decide +kernel
theorem d_O_ages_86 : decode prog_1_method_13_code 86 = .ok (.aload_n 0, 1) := by decide +kernel
theorem d_O_ages_87 : decode prog_1_method_13_code 87 = .ok (.getfield 48, 3) := by decide +kernel
theorem d_O_ages_90 : decode prog_1_method_13_code 90 = .ok (.iload 4, 2) := by decide +kernel
theorem d_O_ages_92 : decode prog_1_method_13_code 92 = .ok (.invokevirtual 152, 3) := by decide +kernel
theorem d_O_ages_95 : decode prog_1_method_13_code 95 = .ok (.goto 38, 3) := by decide +kernel
theorem d_O_ages_98 : decode prog_1_method_13_code 98 = .ok (.aload_n 0, 1) := by decide +kernel
theorem d_O_ages_99 : decode prog_1_method_13_code 99 = .ok (.getfield 48, 3) := by decide +kernel
theorem d_O_ages_102 : decode prog_1_method_13_code 102 = .ok (.getfield 110, 3) := by decide +kernel
theorem d_O_ages_105 : decode prog_1_method_13_code 105 = .ok (.getfield 113, 3) := by decide +kernel
theorem d_O_ages_108 : decode prog_1_method_13_code 108 = .ok (.sipush 9999, 3) := by decide +kernel
theorem d_O_ages_111 : decode prog_1_method_13_code 111 = .ok (.if_icmp .ge 22, 3) := by decide +kernel
theorem d_O_ages_114 : decode prog_1_method_13_code 114 = .ok (.aload_n 0, 1) := by decide +kernel
theorem d_O_ages_115 : decode prog_1_method_13_code 115 = .ok (.getfield 48, 3) := by decide +kernel
theorem d_O_ages_118 : decode prog_1_method_13_code 118 = .ok (.getfield 110, 3) := by decide +kernel
theorem d_O_ages_121 : decode prog_1_method_13_code 121 = .ok (.aload_n 0, 1) := by decide +kernel
theorem d_O_ages_122 : decode prog_1_method_13_code 122 = .ok (.getfield 41, 3) := by decide +kernel
theorem d_O_ages_125 : decode prog_1_method_13_code 125 = .ok (.aload_n 0, 1) := by decide +kernel
theorem d_O_ages_126 : decode prog_1_method_13_code 126 = .ok (.invokevirtual 155, 3) := by decide +kernel
theorem d_O_ages_129 : decode prog_1_method_13_code 129 = .ok (.invokevirtual 159, 3) := by decide +kernel
theorem d_O_ages_132 : decode prog_1_method_13_code 132 = .ok (.pop, 1) := by decide +kernel
theorem d_O_ages_133 : decode prog_1_method_13_code 133 = .ok (.iinc 3 1, 3) := by decide +kernel
theorem d_O_ages_136 : decode prog_1_method_13_code 136 = .ok (.goto (-76), 3) := by decide +kernel
theorem d_O_ages_139 : decode prog_1_method_13_code 139 = .ok (.aload_n 0, 1) := by decide +kernel
theorem d_O_ages_140 : decode prog_1_method_13_code 140 = .ok (.getfield 48, 3) := by decide +kernel
theorem d_O_ages_143 : decode prog_1_method_13_code 143 = .ok (.getfield 110, 3) := by decide +kernel
theorem d_O_ages_146 : decode prog_1_method_13_code 146 = .ok (.getfield 113, 3) := by decide +kernel
theorem d_O_ages_149 : decode prog_1_method_13_code 149 = .ok (.ireturn, 1) := by decide +kernel
theorem d_H_ageByHand_0 : decode prog_2_method_7_code 0 = .ok (.iload_n 1, 1) := by decide +kernel
theorem d_H_ageByHand_1 : decode prog_2_method_7_code 1 = .ok (.bipush 6, 2) := by decide +kernel
theorem d_H_ageByHand_3 : decode prog_2_method_7_code 3 = .ok (.idiv, 1) := by decide +kernel
theorem d_H_ageByHand_4 : decode prog_2_method_7_code 4 = .ok (.bipush 8, 2) := by decide +kernel
theorem d_H_ageByHand_6 : decode prog_2_method_7_code 6 = .ok (.irem, 1) := by decide +kernel
theorem d_H_ageByHand_7 : decode prog_2_method_7_code 7 = .ok (.istore_n 2, 1) := by decide +kernel
theorem d_H_ageByHand_8 : decode prog_2_method_7_code 8 = .ok (.iload_n 1, 1) := by decide +kernel
theorem d_H_ageByHand_9 : decode prog_2_method_7_code 9 = .ok (.bipush 20, 2) := by decide +kernel
theorem d_H_ageByHand_11 : decode prog_2_method_7_code 11 = .ok (.irem, 1) := by decide +kernel
theorem d_H_ageByHand_12 : decode prog_2_method_7_code 12 = .ok (.istore_n 3, 1) := by decide +kernel
theorem d_H_ageByHand_13 : decode prog_2_method_7_code 13 = .ok (.iload_n 1, 1) := by decide +kernel
theorem d_H_ageByHand_14 : decode prog_2_method_7_code 14 = .ok (.bipush 6, 2) := by decide +kernel
theorem d_H_ageByHand_16 : decode prog_2_method_7_code 16 = .ok (.irem, 1) := by decide +kernel
theorem d_H_ageByHand_17 : decode prog_2_method_7_code 17 = .ok (.istore 4, 2) := by decide +kernel
theorem d_H_ageByHand_19 : decode prog_2_method_7_code 19 = .ok (.iload 4, 2) := by decide +kernel
theorem d_H_ageByHand_21 : decode prog_2_method_7_code 21 = .ok (.iconst 2, 1) := by decide +kernel
theorem d_H_ageByHand_22 : decode prog_2_method_7_code 22 = .ok (.if_icmp .ge 29, 3) := by decide +kernel
theorem d_H_ageByHand_25 : decode prog_2_method_7_code 25 = .ok (.aload_n 0, 1) := by decide +kernel
theorem d_H_ageByHand_26 : decode prog_2_method_7_code 26 = .ok (.getfield 12, 3) := by decide +kernel
theorem d_H_ageByHand_29 : decode prog_2_method_7_code 29 = .ok (.iload_n 2, 1) := by decide +kernel
theorem d_H_ageByHand_30 : decode prog_2_method_7_code 30 = .ok (.iload_n 3, 1) := by decide +kernel
theorem d_H_ageByHand_31 : decode prog_2_method_7_code 31 = .ok (.iconst 1, 1) := by decide +kernel
theorem d_H_ageByHand_32 : decode prog_2_method_7_code 32 = .ok (.invokevirtual 86, 3) := by decide +kernel
theorem d_H_ageByHand_35 : decode prog_2_method_7_code 35 = .ok (.ifCond .eq 16, 3) := by decide +kernel
theorem d_H_ageByHand_38 : decode prog_2_method_7_code 38 = .ok (.aload_n 0, 1) := by decide +kernel
theorem d_H_ageByHand_39 : decode prog_2_method_7_code 39 = .ok (.getfield 12, 3) := by decide +kernel
theorem d_H_ageByHand_42 : decode prog_2_method_7_code 42 = .ok (.iload_n 2, 1) := by decide +kernel
theorem d_H_ageByHand_43 : decode prog_2_method_7_code 43 = .ok (.iload_n 3, 1) := by decide +kernel
theorem d_H_ageByHand_44 : decode prog_2_method_7_code 44 = .ok (.iconst 0, 1) := by decide +kernel
theorem d_H_ageByHand_45 : decode prog_2_method_7_code 45 = .ok (.invokevirtual 90, 3) := by decide +kernel
theorem d_H_ageByHand_48 : decode prog_2_method_7_code 48 = .ok (.goto 73, 3) := by decide +kernel
theorem d_H_ageByHand_51 : decode prog_2_method_7_code 51 = .ok (.iload 4, 2) := by decide +kernel
theorem d_H_ageByHand_53 : decode prog_2_method_7_code 53 = .ok (.iconst 2, 1) := by decide +kernel
theorem d_H_ageByHand_54 : decode prog_2_method_7_code 54 = .ok (.if_icmp .ne 29, 3) := by decide +kernel
theorem d_H_ageByHand_57 : decode prog_2_method_7_code 57 = .ok (.aload_n 0, 1) := by decide +kernel
theorem d_H_ageByHand_58 : decode prog_2_method_7_code 58 = .ok (.getfield 12, 3) := by decide +kernel
theorem d_H_ageByHand_61 : decode prog_2_method_7_code 61 = .ok (.iload_n 2, 1) := by decide +kernel
theorem d_H_ageByHand_62 : decode prog_2_method_7_code 62 = .ok (.iload_n 3, 1) := by decide +kernel
theorem d_H_ageByHand_63 : decode prog_2_method_7_code 63 = .ok (.iconst 0, 1) := by decide +kernel
theorem d_H_ageByHand_64 : decode prog_2_method_7_code 64 = .ok (.invokevirtual 86, 3) := by decide +kernel
theorem d_H_ageByHand_67 : decode prog_2_method_7_code 67 = .ok (.ifCond .eq 16, 3) := by decide +kernel
theorem d_H_ageByHand_70 : decode prog_2_method_7_code 70 = .ok (.aload_n 0, 1) := by decide +kernel
theorem d_H_ageByHand_71 : decode prog_2_method_7_code 71 = .ok (.getfield 12, 3) := by decide +kernel
theorem d_H_ageByHand_74 : decode prog_2_method_7_code 74 = .ok (.iload_n 2, 1) := by decide +kernel
theorem d_H_ageByHand_75 : decode prog_2_method_7_code 75 = .ok (.iload_n 3, 1) := by decide +kernel
theorem d_H_ageByHand_76 : decode prog_2_method_7_code 76 = .ok (.iconst 1, 1) := by decide +kernel
theorem d_H_ageByHand_77 : decode prog_2_method_7_code 77 = .ok (.invokevirtual 90, 3) := by decide +kernel
theorem d_H_ageByHand_80 : decode prog_2_method_7_code 80 = .ok (.goto 41, 3) := by decide +kernel
theorem d_H_ageByHand_83 : decode prog_2_method_7_code 83 = .ok (.iload 4, 2) := by decide +kernel
theorem d_H_ageByHand_85 : decode prog_2_method_7_code 85 = .ok (.iconst 3, 1) := by decide +kernel
theorem d_H_ageByHand_86 : decode prog_2_method_7_code 86 = .ok (.if_icmp .ne 35, 3) := by decide +kernel
theorem d_H_ageByHand_89 : decode prog_2_method_7_code 89 = .ok (.iload_n 1, 1) := by decide +kernel
theorem d_H_ageByHand_90 : decode prog_2_method_7_code 90 = .ok (.iconst 4, 1) := by decide +kernel
theorem d_H_ageByHand_91 : decode prog_2_method_7_code 91 = .ok (.irem, 1) := by decide +kernel
theorem d_H_ageByHand_92 : decode prog_2_method_7_code 92 = .ok (.iconst 1, 1) := by decide +kernel
theorem d_H_ageByHand_93 : decode prog_2_method_7_code 93 = .ok (.if_icmp .ne 28, 3) := by decide +kernel
theorem d_H_ageByHand_96 : decode prog_2_method_7_code 96 = .ok (.aload_n 0, 1) := by decide +kernel
theorem d_H_ageByHand_97 : decode prog_2_method_7_code 97 = .ok (.getfield 12, 3) := by decide +kernel
theorem d_H_ageByHand_100 : decode prog_2_method_7_code 100 = .ok (.iload_n 2, 1) := by decide +kernel
theorem d_H_ageByHand_101 : decode prog_2_method_7_code 101 = .ok (.invokevirtual 93, 3) := by decide +kernel
theorem d_H_ageByHand_104 : decode prog_2_method_7_code 104 = .ok (.ifCond .eq 17, 3) := by decide +kernel
theorem d_H_ageByHand_107 : decode prog_2_method_7_code 107 = .ok (.aload_n 0, 1) := by decide +kernel
theorem d_H_ageByHand_108 : decode prog_2_method_7_code 108 = .ok (.iload_n 2, 1) := by decide +kernel
theorem d_H_ageByHand_109 : decode prog_2_method_7_code 109 = .ok (.invokevirtual 79, 3) := by decide +kernel
theorem d_H_ageByHand_112 : decode prog_2_method_7_code 112 = .ok (.ifCond .le 9, 3) := by decide +kernel
theorem d_H_ageByHand_115 : decode prog_2_method_7_code 115 = .ok (.aload_n 0, 1) := by decide +kernel
theorem d_H_ageByHand_116 : decode prog_2_method_7_code 116 = .ok (.iload_n 2, 1) := by decide +kernel
theorem d_H_ageByHand_117 : decode prog_2_method_7_code 117 = .ok (.invokevirtual 97, 3) := by decide +kernel
theorem d_H_ageByHand_120 : decode prog_2_method_7_code 120 = .ok (.pop, 1) := by decide +kernel
theorem d_H_ageByHand_121 : decode prog_2_method_7_code 121 = .ok (.return_, 1) := by decide +kernel
theorem d_O_undo_0 : decode prog_1_method_14_code 0 = .ok (.aload_n 0, 1) := by decide +kernel
theorem d_O_undo_1 : decode prog_1_method_14_code 1 = .ok (.getfield 48, 3) := by decide +kernel
theorem d_O_undo_4 : decode prog_1_method_14_code 4 = .ok (.invokevirtual 163, 3) := by decide +kernel
theorem d_O_undo_7 : decode prog_1_method_14_code 7 = .ok (.ireturn, 1) := by decide +kernel
theorem d_H_takeBack_0 : decode prog_2_method_8_code 0 = .ok (.aload_n 0, 1) := by decide +kernel
theorem d_H_takeBack_1 : decode prog_2_method_8_code 1 = .ok (.getfield 21, 3) := by decide +kernel
theorem d_H_takeBack_4 : decode prog_2_method_8_code 4 = .ok (.getfield 100, 3) := by decide +kernel
theorem d_H_takeBack_7 : decode prog_2_method_8_code 7 = .ok (.ifCond .ne 5, 3) := by decide +kernel
theorem d_H_takeBack_10 : decode prog_2_method_8_code 10 = .ok (.iconst (-1), 1) := by decide +kernel
theorem d_H_takeBack_11 : decode prog_2_method_8_code 11 = .ok (.ireturn, 1) := by decide +kernel
theorem d_H_takeBack_12 : decode prog_2_method_8_code 12 = .ok (.aload_n 0, 1) := by decide +kernel
theorem d_H_takeBack_13 : decode prog_2_method_8_code 13 = .ok (.getfield 12, 3) := by decide +kernel
theorem d_H_takeBack_16 : decode prog_2_method_8_code 16 = .ok (.getfield 67, 3) := by decide +kernel
theorem d_H_takeBack_19 : decode prog_2_method_8_code 19 = .ok (.istore_n 1, 1) := by decide +kernel
theorem d_H_takeBack_20 : decode prog_2_method_8_code 20 = .ok (.aload_n 0, 1) := by decide +kernel
theorem d_H_takeBack_21 : decode prog_2_method_8_code 21 = .ok (.getfield 12, 3) := by decide +kernel
theorem d_H_takeBack_24 : decode prog_2_method_8_code 24 = .ok (.aload_n 0, 1) := by decide +kernel
theorem d_H_takeBack_25 : decode prog_2_method_8_code 25 = .ok (.getfield 21, 3) := by decide +kernel
theorem d_H_takeBack_28 : decode prog_2_method_8_code 28 = .ok (.invokevirtual 103, 3) := by decide +kernel
theorem d_H_takeBack_31 : decode prog_2_method_8_code 31 = .ok (.invokevirtual 42, 3) := by decide +kernel
theorem d_H_takeBack_34 : decode prog_2_method_8_code 34 = .ok (.aload_n 0, 1) := by decide +kernel
theorem d_H_takeBack_35 : decode prog_2_method_8_code 35 = .ok (.getfield 12, 3) := by decide +kernel
theorem d_H_takeBack_38 : decode prog_2_method_8_code 38 = .ok (.getfield 67, 3) := by decide +kernel
theorem d_H_takeBack_41 : decode prog_2_method_8_code 41 = .ok (.istore_n 2, 1) := by decide +kernel
theorem d_H_takeBack_42 : decode prog_2_method_8_code 42 = .ok (.iload_n 2, 1) := by decide +kernel
theorem d_H_takeBack_43 : decode prog_2_method_8_code 43 = .ok (.iload_n 1, 1) := by decide +kernel
theorem d_H_takeBack_44 : decode prog_2_method_8_code 44 = .ok (.if_icmp .ge 24, 3) := by decide +kernel
theorem d_H_takeBack_47 : decode prog_2_method_8_code 47 = .ok (.aload_n 0, 1) := by decide +kernel
theorem d_H_takeBack_48 : decode prog_2_method_8_code 48 = .ok (.getfield 12, 3) := by decide +kernel
theorem d_H_takeBack_51 : decode prog_2_method_8_code 51 = .ok (.getfield 70, 3) := by decide +kernel
theorem d_H_takeBack_54 : decode prog_2_method_8_code 54 = .ok (.iload_n 2, 1) := by decide +kernel
theorem d_H_takeBack_55 : decode prog_2_method_8_code 55 = .ok (.aload_n 0, 1) := by decide +kernel
theorem d_H_takeBack_56 : decode prog_2_method_8_code 56 = .ok (.getfield 25, 3) := by decide +kernel
theorem d_H_takeBack_59 : decode prog_2_method_8_code 59 = .ok (.iload_n 2, 1) := by decide +kernel
theorem d_H_takeBack_60 : decode prog_2_method_8_code 60 = .ok (.iaload, 1) := by decide +kernel
theorem d_H_takeBack_61 : decode prog_2_method_8_code 61 = .ok (.iastore, 1) := by decide +kernel
theorem d_H_takeBack_62 : decode prog_2_method_8_code 62 = .ok (.iinc 2 1, 3) := by decide +kernel
theorem d_H_takeBack_65 : decode prog_2_method_8_code 65 = .ok (.goto (-23), 3) := by decide +kernel
theorem d_H_takeBack_68 : decode prog_2_method_8_code 68 = .ok (.aload_n 0, 1) := by decide +kernel
theorem d_H_takeBack_69 : decode prog_2_method_8_code 69 = .ok (.getfield 12, 3) := by decide +kernel
theorem d_H_takeBack_72 : decode prog_2_method_8_code 72 = .ok (.iload_n 1, 1) := by decide +kernel
theorem d_H_takeBack_73 : decode prog_2_method_8_code 73 = .ok (.putfield 67, 3) := by decide +kernel
theorem d_H_takeBack_76 : decode prog_2_method_8_code 76 = .ok (.aload_n 0, 1) := by decide +kernel
theorem d_H_takeBack_77 : decode prog_2_method_8_code 77 = .ok (.getfield 21, 3) := by decide +kernel
theorem d_H_takeBack_80 : decode prog_2_method_8_code 80 = .ok (.getfield 100, 3) := by decide +kernel
theorem d_H_takeBack_83 : decode prog_2_method_8_code 83 = .ok (.ireturn, 1) := by decide +kernel
theorem d_S_pop_0 : decode prog_6_method_3_code 0 = .ok (.aload_n 0, 1) := by decide +kernel
theorem d_S_pop_1 : decode prog_6_method_3_code 1 = .ok (.iconst 0, 1) := by decide +kernel
theorem d_S_pop_2 : decode prog_6_method_3_code 2 = .ok (.aload_n 0, 1) := by decide +kernel
theorem d_S_pop_3 : decode prog_6_method_3_code 3 = .ok (.getfield 18, 3) := by decide +kernel
theorem d_S_pop_6 : decode prog_6_method_3_code 6 = .ok (.iconst 1, 1) := by decide +kernel
theorem d_S_pop_7 : decode prog_6_method_3_code 7 = .ok (.isub, 1) := by decide +kernel
theorem d_S_pop_8 : decode prog_6_method_3_code 8 = .ok (.invokestatic 29, 3) := by decide +kernel
theorem d_S_pop_11 : decode prog_6_method_3_code 11 = .ok (.putfield 18, 3) := by decide +kernel
theorem d_S_pop_14 : decode prog_6_method_3_code 14 = .ok (.aload_n 0, 1) := by decide +kernel
theorem d_S_pop_15 : decode prog_6_method_3_code 15 = .ok (.getfield 11, 3) := by decide +kernel
theorem d_S_pop_18 : decode prog_6_method_3_code 18 = .ok (.aload_n 0, 1) := by decide +kernel
theorem d_S_pop_19 : decode prog_6_method_3_code 19 = .ok (.getfield 22, 3) := by decide +kernel
theorem d_S_pop_22 : decode prog_6_method_3_code 22 = .ok (.aload_n 0, 1) := by decide +kernel
theorem d_S_pop_23 : decode prog_6_method_3_code 23 = .ok (.getfield 18, 3) := by decide +kernel
theorem d_S_pop_26 : decode prog_6_method_3_code 26 = .ok (.iadd, 1) := by decide +kernel
theorem d_S_pop_27 : decode prog_6_method_3_code 27 = .ok (.bipush 30, 2) := by decide +kernel
theorem d_S_pop_29 : decode prog_6_method_3_code 29 = .ok (.irem, 1) := by decide +kernel
theorem d_S_pop_30 : decode prog_6_method_3_code 30 = .ok (.aaload, 1) := by decide +kernel
theorem d_S_pop_31 : decode prog_6_method_3_code 31 = .ok (.areturn, 1) := by decide +kernel
theorem d_O_of_0 : decode prog_1_method_15_code 0 = .ok (.aload_n 0, 1) := by decide +kernel
theorem d_O_of_1 : decode prog_1_method_15_code 1 = .ok (.iload_n 1, 1) := by decide +kernel
theorem d_O_of_2 : decode prog_1_method_15_code 2 = .ok (.invokevirtual 166, 3) := by decide +kernel
theorem d_O_of_5 : decode prog_1_method_15_code 5 = .ok (.ifCond .ne 5, 3) := by decide +kernel
theorem d_O_of_8 : decode prog_1_method_15_code 8 = .ok (.iconst (-1), 1) := by decide +kernel
theorem d_O_of_9 : decode prog_1_method_15_code 9 = .ok (.ireturn, 1) := by decide +kernel
theorem d_O_of_10 : decode prog_1_method_15_code 10 = .ok (.aload_n 0, 1) := by decide +kernel
theorem d_O_of_11 : decode prog_1_method_15_code 11 = .ok (.getfield 48, 3) := by decide +kernel
theorem d_O_of_14 : decode prog_1_method_15_code 14 = .ok (.getfield 110, 3) := by decide +kernel
theorem d_O_of_17 : decode prog_1_method_15_code 17 = .ok (.getfield 169, 3) := by decide +kernel
theorem d_O_of_20 : decode prog_1_method_15_code 20 = .ok (.iload_n 1, 1) := by decide +kernel
theorem d_O_of_21 : decode prog_1_method_15_code 21 = .ok (.iaload, 1) := by decide +kernel
theorem d_O_of_22 : decode prog_1_method_15_code 22 = .ok (.istore_n 3, 1) := by decide +kernel
theorem d_O_of_23 : decode prog_1_method_15_code 23 = .ok (.iload_n 2, 1) := by decide +kernel
theorem d_O_of_24 : decode prog_1_method_15_code 24 = .ok (.tableswitch 108 0 7 #[48, 50, 60, 65, 73, 78, 83, 88], 48) := by decide +kernel
theorem d_O_of_72 : decode prog_1_method_15_code 72 = .ok (.iload_n 3, 1) := by decide +kernel
theorem d_O_of_73 : decode prog_1_method_15_code 73 = .ok (.ireturn, 1) := by decide +kernel
theorem d_O_of_74 : decode prog_1_method_15_code 74 = .ok (.aload_n 0, 1) := by decide +kernel
theorem d_O_of_75 : decode prog_1_method_15_code 75 = .ok (.getfield 48, 3) := by decide +kernel
theorem d_O_of_78 : decode prog_1_method_15_code 78 = .ok (.getfield 172, 3) := by decide +kernel
theorem d_O_of_81 : decode prog_1_method_15_code 81 = .ok (.iload_n 1, 1) := by decide +kernel
theorem d_O_of_82 : decode prog_1_method_15_code 82 = .ok (.iaload, 1) := by decide +kernel
theorem d_O_of_83 : decode prog_1_method_15_code 83 = .ok (.ireturn, 1) := by decide +kernel
theorem d_O_of_84 : decode prog_1_method_15_code 84 = .ok (.iload_n 3, 1) := by decide +kernel
theorem d_O_of_85 : decode prog_1_method_15_code 85 = .ok (.invokestatic 175, 3) := by decide +kernel
theorem d_O_of_88 : decode prog_1_method_15_code 88 = .ok (.ireturn, 1) := by decide +kernel
theorem d_O_of_89 : decode prog_1_method_15_code 89 = .ok (.iload_n 3, 1) := by decide +kernel
theorem d_O_of_90 : decode prog_1_method_15_code 90 = .ok (.invokestatic 180, 3) := by decide +kernel
theorem d_O_of_93 : decode prog_1_method_15_code 93 = .ok (.invokestatic 175, 3) := by decide +kernel
theorem d_O_of_96 : decode prog_1_method_15_code 96 = .ok (.ireturn, 1) := by decide +kernel
theorem d_O_of_97 : decode prog_1_method_15_code 97 = .ok (.iload_n 3, 1) := by decide +kernel
theorem d_O_of_98 : decode prog_1_method_15_code 98 = .ok (.invokestatic 185, 3) := by decide +kernel
theorem d_O_of_101 : decode prog_1_method_15_code 101 = .ok (.ireturn, 1) := by decide +kernel
theorem d_O_of_102 : decode prog_1_method_15_code 102 = .ok (.iload_n 3, 1) := by decide +kernel
theorem d_O_of_103 : decode prog_1_method_15_code 103 = .ok (.invokestatic 188, 3) := by decide +kernel
theorem d_O_of_106 : decode prog_1_method_15_code 106 = .ok (.ireturn, 1) := by decide +kernel
theorem d_O_of_107 : decode prog_1_method_15_code 107 = .ok (.iload_n 3, 1) := by decide +kernel
theorem d_O_of_108 : decode prog_1_method_15_code 108 = .ok (.invokestatic 191, 3) := by decide +kernel
theorem d_O_of_111 : decode prog_1_method_15_code 111 = .ok (.ireturn, 1) := by decide +kernel
theorem d_O_of_112 : decode prog_1_method_15_code 112 = .ok (.aload_n 0, 1) := by decide +kernel
theorem d_O_of_113 : decode prog_1_method_15_code 113 = .ok (.getfield 41, 3) := by decide +kernel
theorem d_O_of_116 : decode prog_1_method_15_code 116 = .ok (.aload_n 0, 1) := by decide +kernel
theorem d_O_of_117 : decode prog_1_method_15_code 117 = .ok (.invokevirtual 155, 3) := by decide +kernel
theorem d_O_of_120 : decode prog_1_method_15_code 120 = .ok (.aload_n 0, 1) := by decide +kernel
theorem d_O_of_121 : decode prog_1_method_15_code 121 = .ok (.getfield 48, 3) := by decide +kernel
theorem d_O_of_124 : decode prog_1_method_15_code 124 = .ok (.getfield 110, 3) := by decide +kernel
theorem d_O_of_127 : decode prog_1_method_15_code 127 = .ok (.iload_n 1, 1) := by decide +kernel
theorem d_O_of_128 : decode prog_1_method_15_code 128 = .ok (.invokevirtual 194, 3) := by decide +kernel
theorem d_O_of_131 : decode prog_1_method_15_code 131 = .ok (.ireturn, 1) := by decide +kernel
theorem d_O_of_132 : decode prog_1_method_15_code 132 = .ok (.iconst (-1), 1) := by decide +kernel
theorem d_O_of_133 : decode prog_1_method_15_code 133 = .ok (.ireturn, 1) := by decide +kernel
theorem d_K_countHoles_0 : decode prog_7_method_9_code 0 = .ok (.iload_n 0, 1) := by decide +kernel
theorem d_K_countHoles_1 : decode prog_7_method_9_code 1 = .ok (.invokestatic 18, 3) := by decide +kernel
theorem d_K_countHoles_4 : decode prog_7_method_9_code 4 = .ok (.invokestatic 26, 3) := by decide +kernel
theorem d_K_countHoles_7 : decode prog_7_method_9_code 7 = .ok (.istore_n 1, 1) := by decide +kernel
theorem d_K_countHoles_8 : decode prog_7_method_9_code 8 = .ok (.iload_n 0, 1) := by decide +kernel
theorem d_K_countHoles_9 : decode prog_7_method_9_code 9 = .ok (.invokestatic 26, 3) := by decide +kernel
theorem d_K_countHoles_12 : decode prog_7_method_9_code 12 = .ok (.iload_n 0, 1) := by decide +kernel
theorem d_K_countHoles_13 : decode prog_7_method_9_code 13 = .ok (.invokestatic 31, 3) := by decide +kernel
theorem d_K_countHoles_16 : decode prog_7_method_9_code 16 = .ok (.iadd, 1) := by decide +kernel
theorem d_K_countHoles_17 : decode prog_7_method_9_code 17 = .ok (.iload_n 1, 1) := by decide +kernel
theorem d_K_countHoles_18 : decode prog_7_method_9_code 18 = .ok (.isub, 1) := by decide +kernel
theorem d_K_countHoles_19 : decode prog_7_method_9_code 19 = .ok (.ireturn, 1) := by decide +kernel
theorem d_K_countCrossings_0 : decode prog_7_method_10_code 0 = .ok (.iload_n 0, 1) := by decide +kernel
theorem d_K_countCrossings_1 : decode prog_7_method_10_code 1 = .ok (.bipush 12, 2) := by decide +kernel
theorem d_K_countCrossings_3 : decode prog_7_method_10_code 3 = .ok (.ishr, 1) := by decide +kernel
theorem d_K_countCrossings_4 : decode prog_7_method_10_code 4 = .ok (.iload_n 0, 1) := by decide +kernel
theorem d_K_countCrossings_5 : decode prog_7_method_10_code 5 = .ok (.bipush 16, 2) := by decide +kernel
theorem d_K_countCrossings_7 : decode prog_7_method_10_code 7 = .ok (.ishr, 1) := by decide +kernel
theorem d_K_countCrossings_8 : decode prog_7_method_10_code 8 = .ok (.iand, 1) := by decide +kernel
theorem d_K_countCrossings_9 : decode prog_7_method_10_code 9 = .ok (.bipush 15, 2) := by decide +kernel
theorem d_K_countCrossings_11 : decode prog_7_method_10_code 11 = .ok (.iand, 1) := by decide +kernel
theorem d_K_countCrossings_12 : decode prog_7_method_10_code 12 = .ok (.invokestatic 26, 3) := by decide +kernel
theorem d_K_countCrossings_15 : decode prog_7_method_10_code 15 = .ok (.ireturn, 1) := by decide +kernel
theorem d_O_wears_0 : decode prog_1_method_16_code 0 = .ok (.aload_n 0, 1) := by decide +kernel
theorem d_O_wears_1 : decode prog_1_method_16_code 1 = .ok (.iload_n 1, 1) := by decide +kernel
theorem d_O_wears_2 : decode prog_1_method_16_code 2 = .ok (.invokevirtual 166, 3) := by decide +kernel
theorem d_O_wears_5 : decode prog_1_method_16_code 5 = .ok (.ifCond .eq 10, 3) := by decide +kernel
theorem d_O_wears_8 : decode prog_1_method_16_code 8 = .ok (.iload_n 2, 1) := by decide +kernel
theorem d_O_wears_9 : decode prog_1_method_16_code 9 = .ok (.invokestatic 198, 3) := by decide +kernel
theorem d_O_wears_12 : decode prog_1_method_16_code 12 = .ok (.ifCond .ne 5, 3) := by decide +kernel
theorem d_O_wears_15 : decode prog_1_method_16_code 15 = .ok (.iconst (-1), 1) := by decide +kernel
theorem d_O_wears_16 : decode prog_1_method_16_code 16 = .ok (.ireturn, 1) := by decide +kernel
theorem d_O_wears_17 : decode prog_1_method_16_code 17 = .ok (.aload_n 0, 1) := by decide +kernel
theorem d_O_wears_18 : decode prog_1_method_16_code 18 = .ok (.getfield 41, 3) := by decide +kernel
theorem d_O_wears_21 : decode prog_1_method_16_code 21 = .ok (.aload_n 0, 1) := by decide +kernel
theorem d_O_wears_22 : decode prog_1_method_16_code 22 = .ok (.invokevirtual 155, 3) := by decide +kernel
theorem d_O_wears_25 : decode prog_1_method_16_code 25 = .ok (.aload_n 0, 1) := by decide +kernel
theorem d_O_wears_26 : decode prog_1_method_16_code 26 = .ok (.getfield 48, 3) := by decide +kernel
theorem d_O_wears_29 : decode prog_1_method_16_code 29 = .ok (.getfield 110, 3) := by decide +kernel
theorem d_O_wears_32 : decode prog_1_method_16_code 32 = .ok (.iload_n 1, 1) := by decide +kernel
theorem d_O_wears_33 : decode prog_1_method_16_code 33 = .ok (.iload_n 2, 1) := by decide +kernel
theorem d_O_wears_34 : decode prog_1_method_16_code 34 = .ok (.invokevirtual 201, 3) := by decide +kernel
theorem d_O_wears_37 : decode prog_1_method_16_code 37 = .ok (.ireturn, 1) := by decide +kernel
theorem d_O_is_0 : decode prog_1_method_17_code 0 = .ok (.iload_n 1, 1) := by decide +kernel
theorem d_O_is_1 : decode prog_1_method_17_code 1 = .ok (.tableswitch 72 0 3 #[31, 42, 53, 64], 31) := by decide +kernel
theorem d_O_is_32 : decode prog_1_method_17_code 32 = .ok (.aload_n 0, 1) := by decide +kernel
theorem d_O_is_33 : decode prog_1_method_17_code 33 = .ok (.getfield 48, 3) := by decide +kernel
theorem d_O_is_36 : decode prog_1_method_17_code 36 = .ok (.getfield 110, 3) := by decide +kernel
theorem d_O_is_39 : decode prog_1_method_17_code 39 = .ok (.getfield 113, 3) := by decide +kernel
theorem d_O_is_42 : decode prog_1_method_17_code 42 = .ok (.ireturn, 1) := by decide +kernel
theorem d_O_is_43 : decode prog_1_method_17_code 43 = .ok (.aload_n 0, 1) := by decide +kernel
theorem d_O_is_44 : decode prog_1_method_17_code 44 = .ok (.getfield 48, 3) := by decide +kernel
theorem d_O_is_47 : decode prog_1_method_17_code 47 = .ok (.getfield 110, 3) := by decide +kernel
theorem d_O_is_50 : decode prog_1_method_17_code 50 = .ok (.getfield 145, 3) := by decide +kernel
theorem d_O_is_53 : decode prog_1_method_17_code 53 = .ok (.ireturn, 1) := by decide +kernel
theorem d_O_is_54 : decode prog_1_method_17_code 54 = .ok (.aload_n 0, 1) := by decide +kernel
theorem d_O_is_55 : decode prog_1_method_17_code 55 = .ok (.getfield 48, 3) := by decide +kernel
theorem d_O_is_58 : decode prog_1_method_17_code 58 = .ok (.getfield 110, 3) := by decide +kernel
theorem d_O_is_61 : decode prog_1_method_17_code 61 = .ok (.getfield 205, 3) := by decide +kernel
theorem d_O_is_64 : decode prog_1_method_17_code 64 = .ok (.ireturn, 1) := by decide +kernel
theorem d_O_is_65 : decode prog_1_method_17_code 65 = .ok (.aload_n 0, 1) := by decide +kernel
theorem d_O_is_66 : decode prog_1_method_17_code 66 = .ok (.getfield 48, 3) := by decide +kernel
theorem d_O_is_69 : decode prog_1_method_17_code 69 = .ok (.invokevirtual 208, 3) := by decide +kernel
theorem d_O_is_72 : decode prog_1_method_17_code 72 = .ok (.ireturn, 1) := by decide +kernel
theorem d_O_is_73 : decode prog_1_method_17_code 73 = .ok (.bipush (-2), 2) := by decide +kernel
theorem d_O_is_75 : decode prog_1_method_17_code 75 = .ok (.ireturn, 1) := by decide +kernel
theorem d_H_otherThanRegistered_0 : decode prog_2_method_5_code 0 = .ok (.iconst 0, 1) := by decide +kernel
theorem d_H_otherThanRegistered_1 : decode prog_2_method_5_code 1 = .ok (.istore_n 1, 1) := by decide +kernel
theorem d_H_otherThanRegistered_2 : decode prog_2_method_5_code 2 = .ok (.iconst 0, 1) := by decide +kernel
theorem d_H_otherThanRegistered_3 : decode prog_2_method_5_code 3 = .ok (.istore_n 2, 1) := by decide +kernel
theorem d_H_otherThanRegistered_4 : decode prog_2_method_5_code 4 = .ok (.iload_n 2, 1) := by decide +kernel
theorem d_H_otherThanRegistered_5 : decode prog_2_method_5_code 5 = .ok (.aload_n 0, 1) := by decide +kernel
theorem d_H_otherThanRegistered_6 : decode prog_2_method_5_code 6 = .ok (.getfield 12, 3) := by decide +kernel
theorem d_H_otherThanRegistered_9 : decode prog_2_method_5_code 9 = .ok (.getfield 67, 3) := by decide +kernel
theorem d_H_otherThanRegistered_12 : decode prog_2_method_5_code 12 = .ok (.if_icmp .ge 33, 3) := by decide +kernel
theorem d_H_otherThanRegistered_15 : decode prog_2_method_5_code 15 = .ok (.aload_n 0, 1) := by decide +kernel
theorem d_H_otherThanRegistered_16 : decode prog_2_method_5_code 16 = .ok (.getfield 12, 3) := by decide +kernel
theorem d_H_otherThanRegistered_19 : decode prog_2_method_5_code 19 = .ok (.getfield 70, 3) := by decide +kernel
theorem d_H_otherThanRegistered_22 : decode prog_2_method_5_code 22 = .ok (.iload_n 2, 1) := by decide +kernel
theorem d_H_otherThanRegistered_23 : decode prog_2_method_5_code 23 = .ok (.iaload, 1) := by decide +kernel
theorem d_H_otherThanRegistered_24 : decode prog_2_method_5_code 24 = .ok (.aload_n 0, 1) := by decide +kernel
theorem d_H_otherThanRegistered_25 : decode prog_2_method_5_code 25 = .ok (.getfield 25, 3) := by decide +kernel
theorem d_H_otherThanRegistered_28 : decode prog_2_method_5_code 28 = .ok (.iload_n 2, 1) := by decide +kernel
theorem d_H_otherThanRegistered_29 : decode prog_2_method_5_code 29 = .ok (.iaload, 1) := by decide +kernel
theorem d_H_otherThanRegistered_30 : decode prog_2_method_5_code 30 = .ok (.if_icmp .eq 9, 3) := by decide +kernel
theorem d_H_otherThanRegistered_33 : decode prog_2_method_5_code 33 = .ok (.iload_n 1, 1) := by decide +kernel
theorem d_H_otherThanRegistered_34 : decode prog_2_method_5_code 34 = .ok (.iconst 1, 1) := by decide +kernel
theorem d_H_otherThanRegistered_35 : decode prog_2_method_5_code 35 = .ok (.iload_n 2, 1) := by decide +kernel
theorem d_H_otherThanRegistered_36 : decode prog_2_method_5_code 36 = .ok (.ishl, 1) := by decide +kernel
theorem d_H_otherThanRegistered_37 : decode prog_2_method_5_code 37 = .ok (.ior, 1) := by decide +kernel
theorem d_H_otherThanRegistered_38 : decode prog_2_method_5_code 38 = .ok (.istore_n 1, 1) := by decide +kernel
theorem d_H_otherThanRegistered_39 : decode prog_2_method_5_code 39 = .ok (.iinc 2 1, 3) := by decide +kernel
theorem d_H_otherThanRegistered_42 : decode prog_2_method_5_code 42 = .ok (.goto (-38), 3) := by decide +kernel
theorem d_H_otherThanRegistered_45 : decode prog_2_method_5_code 45 = .ok (.iload_n 1, 1) := by decide +kernel
theorem d_H_otherThanRegistered_46 : decode prog_2_method_5_code 46 = .ok (.ireturn, 1) := by decide +kernel
theorem d_O_book_0 : decode prog_1_method_18_code 0 = .ok (.aload_n 0, 1) := by decide +kernel
theorem d_O_book_1 : decode prog_1_method_18_code 1 = .ok (.getfield 48, 3) := by decide +kernel
theorem d_O_book_4 : decode prog_1_method_18_code 4 = .ok (.getfield 110, 3) := by decide +kernel
theorem d_O_book_7 : decode prog_1_method_18_code 7 = .ok (.astore_n 3, 1) := by decide +kernel
theorem d_O_book_8 : decode prog_1_method_18_code 8 = .ok (.iload_n 1, 1) := by decide +kernel
theorem d_O_book_9 : decode prog_1_method_18_code 9 = .ok (.iconst (-1), 1) := by decide +kernel
theorem d_O_book_10 : decode prog_1_method_18_code 10 = .ok (.if_icmp .ne 8, 3) := by decide +kernel
theorem d_O_book_13 : decode prog_1_method_18_code 13 = .ok (.aload_n 3, 1) := by decide +kernel
theorem d_O_book_14 : decode prog_1_method_18_code 14 = .ok (.getfield 211, 3) := by decide +kernel
theorem d_O_book_17 : decode prog_1_method_18_code 17 = .ok (.ireturn, 1) := by decide +kernel
theorem d_O_book_18 : decode prog_1_method_18_code 18 = .ok (.iload_n 1, 1) := by decide +kernel
theorem d_O_book_19 : decode prog_1_method_18_code 19 = .ok (.ifCond .lt 20, 3) := by decide +kernel
theorem d_O_book_22 : decode prog_1_method_18_code 22 = .ok (.iload_n 1, 1) := by decide +kernel
theorem d_O_book_23 : decode prog_1_method_18_code 23 = .ok (.aload_n 3, 1) := by decide +kernel
theorem d_O_book_24 : decode prog_1_method_18_code 24 = .ok (.getfield 211, 3) := by decide +kernel
theorem d_O_book_27 : decode prog_1_method_18_code 27 = .ok (.if_icmp .ge 12, 3) := by decide +kernel
theorem d_O_book_30 : decode prog_1_method_18_code 30 = .ok (.iload_n 2, 1) := by decide +kernel
theorem d_O_book_31 : decode prog_1_method_18_code 31 = .ok (.ifCond .lt 8, 3) := by decide +kernel
theorem d_O_book_34 : decode prog_1_method_18_code 34 = .ok (.iload_n 2, 1) := by decide +kernel
theorem d_O_book_35 : decode prog_1_method_18_code 35 = .ok (.iconst 3, 1) := by decide +kernel
theorem d_O_book_36 : decode prog_1_method_18_code 36 = .ok (.if_icmp .le 6, 3) := by decide +kernel
theorem d_O_book_39 : decode prog_1_method_18_code 39 = .ok (.bipush (-2), 2) := by decide +kernel
theorem d_O_book_41 : decode prog_1_method_18_code 41 = .ok (.ireturn, 1) := by decide +kernel
theorem d_O_book_42 : decode prog_1_method_18_code 42 = .ok (.aload_n 3, 1) := by decide +kernel
theorem d_O_book_43 : decode prog_1_method_18_code 43 = .ok (.iload_n 1, 1) := by decide +kernel
theorem d_O_book_44 : decode prog_1_method_18_code 44 = .ok (.iload_n 2, 1) := by decide +kernel
theorem d_O_book_45 : decode prog_1_method_18_code 45 = .ok (.invokevirtual 214, 3) := by decide +kernel
theorem d_O_book_48 : decode prog_1_method_18_code 48 = .ok (.ireturn, 1) := by decide +kernel
theorem d_N_lineTells_0 : decode prog_4_method_8_code 0 = .ok (.aload_n 0, 1) := by decide +kernel
theorem d_N_lineTells_1 : decode prog_4_method_8_code 1 = .ok (.getfield 19, 3) := by decide +kernel
theorem d_N_lineTells_4 : decode prog_4_method_8_code 4 = .ok (.iload_n 1, 1) := by decide +kernel
theorem d_N_lineTells_5 : decode prog_4_method_8_code 5 = .ok (.iaload, 1) := by decide +kernel
theorem d_N_lineTells_6 : decode prog_4_method_8_code 6 = .ok (.istore_n 3, 1) := by decide +kernel
theorem d_N_lineTells_7 : decode prog_4_method_8_code 7 = .ok (.iload_n 2, 1) := by decide +kernel
theorem d_N_lineTells_8 : decode prog_4_method_8_code 8 = .ok (.tableswitch 55 0 2 #[28, 38, 48], 28) := by decide +kernel
theorem d_N_lineTells_36 : decode prog_4_method_8_code 36 = .ok (.iload_n 3, 1) := by decide +kernel
theorem d_N_lineTells_37 : decode prog_4_method_8_code 37 = .ok (.bipush 32, 2) := by decide +kernel
theorem d_N_lineTells_39 : decode prog_4_method_8_code 39 = .ok (.idiv, 1) := by decide +kernel
theorem d_N_lineTells_40 : decode prog_4_method_8_code 40 = .ok (.iconst 4, 1) := by decide +kernel
theorem d_N_lineTells_41 : decode prog_4_method_8_code 41 = .ok (.idiv, 1) := by decide +kernel
theorem d_N_lineTells_42 : decode prog_4_method_8_code 42 = .ok (.bipush 8, 2) := by decide +kernel
theorem d_N_lineTells_44 : decode prog_4_method_8_code 44 = .ok (.idiv, 1) := by decide +kernel
theorem d_N_lineTells_45 : decode prog_4_method_8_code 45 = .ok (.ireturn, 1) := by decide +kernel
theorem d_N_lineTells_46 : decode prog_4_method_8_code 46 = .ok (.iload_n 3, 1) := by decide +kernel
theorem d_N_lineTells_47 : decode prog_4_method_8_code 47 = .ok (.bipush 32, 2) := by decide +kernel
theorem d_N_lineTells_49 : decode prog_4_method_8_code 49 = .ok (.idiv, 1) := by decide +kernel
theorem d_N_lineTells_50 : decode prog_4_method_8_code 50 = .ok (.iconst 4, 1) := by decide +kernel
theorem d_N_lineTells_51 : decode prog_4_method_8_code 51 = .ok (.idiv, 1) := by decide +kernel
theorem d_N_lineTells_52 : decode prog_4_method_8_code 52 = .ok (.bipush 8, 2) := by decide +kernel
theorem d_N_lineTells_54 : decode prog_4_method_8_code 54 = .ok (.irem, 1) := by decide +kernel
theorem d_N_lineTells_55 : decode prog_4_method_8_code 55 = .ok (.ireturn, 1) := by decide +kernel
theorem d_N_lineTells_56 : decode prog_4_method_8_code 56 = .ok (.iload_n 3, 1) := by decide +kernel
theorem d_N_lineTells_57 : decode prog_4_method_8_code 57 = .ok (.bipush 32, 2) := by decide +kernel
theorem d_N_lineTells_59 : decode prog_4_method_8_code 59 = .ok (.idiv, 1) := by decide +kernel
theorem d_N_lineTells_60 : decode prog_4_method_8_code 60 = .ok (.iconst 4, 1) := by decide +kernel
theorem d_N_lineTells_61 : decode prog_4_method_8_code 61 = .ok (.irem, 1) := by decide +kernel
theorem d_N_lineTells_62 : decode prog_4_method_8_code 62 = .ok (.ireturn, 1) := by decide +kernel
theorem d_N_lineTells_63 : decode prog_4_method_8_code 63 = .ok (.iload_n 3, 1) := by decide +kernel
theorem d_N_lineTells_64 : decode prog_4_method_8_code 64 = .ok (.bipush 32, 2) := by decide +kernel
theorem d_N_lineTells_66 : decode prog_4_method_8_code 66 = .ok (.irem, 1) := by decide +kernel
theorem d_N_lineTells_67 : decode prog_4_method_8_code 67 = .ok (.iconst 1, 1) := by decide +kernel
theorem d_N_lineTells_68 : decode prog_4_method_8_code 68 = .ok (.isub, 1) := by decide +kernel
theorem d_N_lineTells_69 : decode prog_4_method_8_code 69 = .ok (.ireturn, 1) := by decide +kernel
theorem d_O_foretold_0 : decode prog_1_method_19_code 0 = .ok (.iload_n 1, 1) := by decide +kernel
theorem d_O_foretold_1 : decode prog_1_method_19_code 1 = .ok (.iconst 1, 1) := by decide +kernel
theorem d_O_foretold_2 : decode prog_1_method_19_code 2 = .ok (.if_icmp .lt 17, 3) := by decide +kernel
theorem d_O_foretold_5 : decode prog_1_method_19_code 5 = .ok (.iload_n 1, 1) := by decide +kernel
theorem d_O_foretold_6 : decode prog_1_method_19_code 6 = .ok (.bipush 60, 2) := by decide +kernel
theorem d_O_foretold_8 : decode prog_1_method_19_code 8 = .ok (.if_icmp .gt 11, 3) := by decide +kernel
theorem d_O_foretold_11 : decode prog_1_method_19_code 11 = .ok (.aload_n 0, 1) := by decide +kernel
theorem d_O_foretold_12 : decode prog_1_method_19_code 12 = .ok (.iload_n 2, 1) := by decide +kernel
theorem d_O_foretold_13 : decode prog_1_method_19_code 13 = .ok (.invokevirtual 166, 3) := by decide +kernel
theorem d_O_foretold_16 : decode prog_1_method_19_code 16 = .ok (.ifCond .ne 5, 3) := by decide +kernel
theorem d_O_foretold_19 : decode prog_1_method_19_code 19 = .ok (.iconst (-1), 1) := by decide +kernel
theorem d_O_foretold_20 : decode prog_1_method_19_code 20 = .ok (.ireturn, 1) := by decide +kernel
theorem d_O_foretold_21 : decode prog_1_method_19_code 21 = .ok (.aload_n 0, 1) := by decide +kernel
theorem d_O_foretold_22 : decode prog_1_method_19_code 22 = .ok (.getfield 58, 3) := by decide +kernel
theorem d_O_foretold_25 : decode prog_1_method_19_code 25 = .ok (.aload_n 0, 1) := by decide +kernel
theorem d_O_foretold_26 : decode prog_1_method_19_code 26 = .ok (.getfield 48, 3) := by decide +kernel
theorem d_O_foretold_29 : decode prog_1_method_19_code 29 = .ok (.getfield 110, 3) := by decide +kernel
theorem d_O_foretold_32 : decode prog_1_method_19_code 32 = .ok (.invokevirtual 218, 3) := by decide +kernel
theorem d_O_foretold_35 : decode prog_1_method_19_code 35 = .ok (.iconst 0, 1) := by decide +kernel
theorem d_O_foretold_36 : decode prog_1_method_19_code 36 = .ok (.istore_n 3, 1) := by decide +kernel
theorem d_O_foretold_37 : decode prog_1_method_19_code 37 = .ok (.iload_n 3, 1) := by decide +kernel
theorem d_O_foretold_38 : decode prog_1_method_19_code 38 = .ok (.iload_n 1, 1) := by decide +kernel
theorem d_O_foretold_39 : decode prog_1_method_19_code 39 = .ok (.if_icmp .ge 38, 3) := by decide +kernel
theorem d_O_foretold_42 : decode prog_1_method_19_code 42 = .ok (.aload_n 0, 1) := by decide +kernel
theorem d_O_foretold_43 : decode prog_1_method_19_code 43 = .ok (.getfield 58, 3) := by decide +kernel
theorem d_O_foretold_46 : decode prog_1_method_19_code 46 = .ok (.getfield 113, 3) := by decide +kernel
theorem d_O_foretold_49 : decode prog_1_method_19_code 49 = .ok (.sipush 9999, 3) := by decide +kernel
theorem d_O_foretold_52 : decode prog_1_method_19_code 52 = .ok (.if_icmp .ge 25, 3) := by decide +kernel
theorem d_O_foretold_55 : decode prog_1_method_19_code 55 = .ok (.aload_n 0, 1) := by decide +kernel
theorem d_O_foretold_56 : decode prog_1_method_19_code 56 = .ok (.getfield 58, 3) := by decide +kernel
theorem d_O_foretold_59 : decode prog_1_method_19_code 59 = .ok (.aload_n 0, 1) := by decide +kernel
theorem d_O_foretold_60 : decode prog_1_method_19_code 60 = .ok (.getfield 41, 3) := by decide +kernel
theorem d_O_foretold_63 : decode prog_1_method_19_code 63 = .ok (.aload_n 0, 1) := by decide +kernel
theorem d_O_foretold_64 : decode prog_1_method_19_code 64 = .ok (.invokevirtual 155, 3) := by decide +kernel
theorem d_O_foretold_67 : decode prog_1_method_19_code 67 = .ok (.invokevirtual 159, 3) := by decide +kernel
theorem d_O_foretold_70 : decode prog_1_method_19_code 70 = .ok (.pop, 1) := by decide +kernel
theorem d_O_foretold_71 : decode prog_1_method_19_code 71 = .ok (.iinc 3 1, 3) := by decide +kernel
theorem d_O_foretold_74 : decode prog_1_method_19_code 74 = .ok (.goto (-37), 3) := by decide +kernel
theorem d_O_foretold_77 : decode prog_1_method_19_code 77 = .ok (.aload_n 0, 1) := by decide +kernel
theorem d_O_foretold_78 : decode prog_1_method_19_code 78 = .ok (.getfield 58, 3) := by decide +kernel
theorem d_O_foretold_81 : decode prog_1_method_19_code 81 = .ok (.getfield 169, 3) := by decide +kernel
theorem d_O_foretold_84 : decode prog_1_method_19_code 84 = .ok (.iload_n 2, 1) := by decide +kernel
theorem d_O_foretold_85 : decode prog_1_method_19_code 85 = .ok (.iaload, 1) := by decide +kernel
theorem d_O_foretold_86 : decode prog_1_method_19_code 86 = .ok (.ireturn, 1) := by decide +kernel
theorem d_O_drawn_0 : decode prog_1_method_20_code 0 = .ok (.iload_n 1, 1) := by decide +kernel
theorem d_O_drawn_1 : decode prog_1_method_20_code 1 = .ok (.invokestatic 221, 3) := by decide +kernel
theorem d_O_drawn_4 : decode prog_1_method_20_code 4 = .ok (.ifCond .eq 18, 3) := by decide +kernel
theorem d_O_drawn_7 : decode prog_1_method_20_code 7 = .ok (.iload_n 2, 1) := by decide +kernel
theorem d_O_drawn_8 : decode prog_1_method_20_code 8 = .ok (.invokestatic 221, 3) := by decide +kernel
theorem d_O_drawn_11 : decode prog_1_method_20_code 11 = .ok (.ifCond .eq 11, 3) := by decide +kernel
theorem d_O_drawn_14 : decode prog_1_method_20_code 14 = .ok (.iload_n 1, 1) := by decide +kernel
theorem d_O_drawn_15 : decode prog_1_method_20_code 15 = .ok (.iload_n 2, 1) := by decide +kernel
theorem d_O_drawn_16 : decode prog_1_method_20_code 16 = .ok (.invokestatic 224, 3) := by decide +kernel
theorem d_O_drawn_19 : decode prog_1_method_20_code 19 = .ok (.goto 4, 3) := by decide +kernel
theorem d_O_drawn_22 : decode prog_1_method_20_code 22 = .ok (.iconst (-1), 1) := by decide +kernel
theorem d_O_drawn_23 : decode prog_1_method_20_code 23 = .ok (.ireturn, 1) := by decide +kernel
theorem d_O_isPoint_0 : decode prog_1_method_53_code 0 = .ok (.iload_n 0, 1) := by decide +kernel
theorem d_O_isPoint_1 : decode prog_1_method_53_code 1 = .ok (.ifCond .lt 13, 3) := by decide +kernel
theorem d_O_isPoint_4 : decode prog_1_method_53_code 4 = .ok (.iload_n 0, 1) := by decide +kernel
theorem d_O_isPoint_5 : decode prog_1_method_53_code 5 = .ok (.bipush 9, 2) := by decide +kernel
theorem d_O_isPoint_7 : decode prog_1_method_53_code 7 = .ok (.if_icmp .ge 7, 3) := by decide +kernel
theorem d_O_isPoint_10 : decode prog_1_method_53_code 10 = .ok (.iconst 1, 1) := by decide +kernel
theorem d_O_isPoint_11 : decode prog_1_method_53_code 11 = .ok (.goto 4, 3) := by decide +kernel
theorem d_O_isPoint_14 : decode prog_1_method_53_code 14 = .ok (.iconst 0, 1) := by decide +kernel
theorem d_O_isPoint_15 : decode prog_1_method_53_code 15 = .ok (.ireturn, 1) := by decide +kernel
theorem d_K_between_0 : decode prog_7_method_2_code 0 = .ok (.iconst 1, 1) := by decide +kernel
theorem d_K_between_1 : decode prog_7_method_2_code 1 = .ok (.iload_n 0, 1) := by decide +kernel
theorem d_K_between_2 : decode prog_7_method_2_code 2 = .ok (.ishl, 1) := by decide +kernel
theorem d_K_between_3 : decode prog_7_method_2_code 3 = .ok (.iconst 1, 1) := by decide +kernel
theorem d_K_between_4 : decode prog_7_method_2_code 4 = .ok (.iload_n 1, 1) := by decide +kernel
theorem d_K_between_5 : decode prog_7_method_2_code 5 = .ok (.ishl, 1) := by decide +kernel
theorem d_K_between_6 : decode prog_7_method_2_code 6 = .ok (.ior, 1) := by decide +kernel
theorem d_K_between_7 : decode prog_7_method_2_code 7 = .ok (.istore_n 2, 1) := by decide +kernel
theorem d_K_between_8 : decode prog_7_method_2_code 8 = .ok (.iconst 0, 1) := by decide +kernel
theorem d_K_between_9 : decode prog_7_method_2_code 9 = .ok (.istore_n 3, 1) := by decide +kernel
theorem d_K_between_10 : decode prog_7_method_2_code 10 = .ok (.iload_n 3, 1) := by decide +kernel
theorem d_K_between_11 : decode prog_7_method_2_code 11 = .ok (.bipush 20, 2) := by decide +kernel
theorem d_K_between_13 : decode prog_7_method_2_code 13 = .ok (.if_icmp .ge 20, 3) := by decide +kernel
theorem d_K_between_16 : decode prog_7_method_2_code 16 = .ok (.getstatic 9, 3) := by decide +kernel
theorem d_K_between_19 : decode prog_7_method_2_code 19 = .ok (.iload_n 3, 1) := by decide +kernel
theorem d_K_between_20 : decode prog_7_method_2_code 20 = .ok (.iaload, 1) := by decide +kernel
theorem d_K_between_21 : decode prog_7_method_2_code 21 = .ok (.iload_n 2, 1) := by decide +kernel
theorem d_K_between_22 : decode prog_7_method_2_code 22 = .ok (.if_icmp .ne 5, 3) := by decide +kernel
theorem d_K_between_25 : decode prog_7_method_2_code 25 = .ok (.iload_n 3, 1) := by decide +kernel
theorem d_K_between_26 : decode prog_7_method_2_code 26 = .ok (.ireturn, 1) := by decide +kernel
theorem d_K_between_27 : decode prog_7_method_2_code 27 = .ok (.iinc 3 1, 3) := by decide +kernel
theorem d_K_between_30 : decode prog_7_method_2_code 30 = .ok (.goto (-20), 3) := by decide +kernel
theorem d_K_between_33 : decode prog_7_method_2_code 33 = .ok (.iconst (-1), 1) := by decide +kernel
theorem d_K_between_34 : decode prog_7_method_2_code 34 = .ok (.ireturn, 1) := by decide +kernel
theorem d_O_turned_0 : decode prog_1_method_21_code 0 = .ok (.iload_n 1, 1) := by decide +kernel
theorem d_O_turned_1 : decode prog_1_method_21_code 1 = .ok (.invokestatic 73, 3) := by decide +kernel
theorem d_O_turned_4 : decode prog_1_method_21_code 4 = .ok (.ifCond .eq 18, 3) := by decide +kernel
theorem d_O_turned_7 : decode prog_1_method_21_code 7 = .ok (.iload_n 2, 1) := by decide +kernel
theorem d_O_turned_8 : decode prog_1_method_21_code 8 = .ok (.invokestatic 227, 3) := by decide +kernel
theorem d_O_turned_11 : decode prog_1_method_21_code 11 = .ok (.ifCond .eq 11, 3) := by decide +kernel
theorem d_O_turned_14 : decode prog_1_method_21_code 14 = .ok (.iload_n 1, 1) := by decide +kernel
theorem d_O_turned_15 : decode prog_1_method_21_code 15 = .ok (.iload_n 2, 1) := by decide +kernel
theorem d_O_turned_16 : decode prog_1_method_21_code 16 = .ok (.invokestatic 230, 3) := by decide +kernel
theorem d_O_turned_19 : decode prog_1_method_21_code 19 = .ok (.goto 4, 3) := by decide +kernel
theorem d_O_turned_22 : decode prog_1_method_21_code 22 = .ok (.iconst (-1), 1) := by decide +kernel
theorem d_O_turned_23 : decode prog_1_method_21_code 23 = .ok (.ireturn, 1) := by decide +kernel
theorem d_O_isWay_0 : decode prog_1_method_54_code 0 = .ok (.iload_n 0, 1) := by decide +kernel
theorem d_O_isWay_1 : decode prog_1_method_54_code 1 = .ok (.ifCond .lt 13, 3) := by decide +kernel
theorem d_O_isWay_4 : decode prog_1_method_54_code 4 = .ok (.iload_n 0, 1) := by decide +kernel
theorem d_O_isWay_5 : decode prog_1_method_54_code 5 = .ok (.bipush 8, 2) := by decide +kernel
theorem d_O_isWay_7 : decode prog_1_method_54_code 7 = .ok (.if_icmp .ge 7, 3) := by decide +kernel
theorem d_O_isWay_10 : decode prog_1_method_54_code 10 = .ok (.iconst 1, 1) := by decide +kernel
theorem d_O_isWay_11 : decode prog_1_method_54_code 11 = .ok (.goto 4, 3) := by decide +kernel
theorem d_O_isWay_14 : decode prog_1_method_54_code 14 = .ok (.iconst 0, 1) := by decide +kernel
theorem d_O_isWay_15 : decode prog_1_method_54_code 15 = .ok (.ireturn, 1) := by decide +kernel
theorem d_O_joined_0 : decode prog_1_method_22_code 0 = .ok (.iload_n 1, 1) := by decide +kernel
theorem d_O_joined_1 : decode prog_1_method_22_code 1 = .ok (.invokestatic 227, 3) := by decide +kernel
theorem d_O_joined_4 : decode prog_1_method_22_code 4 = .ok (.ifCond .eq 10, 3) := by decide +kernel
theorem d_O_joined_7 : decode prog_1_method_22_code 7 = .ok (.iload_n 2, 1) := by decide +kernel
theorem d_O_joined_8 : decode prog_1_method_22_code 8 = .ok (.invokestatic 227, 3) := by decide +kernel
theorem d_O_joined_11 : decode prog_1_method_22_code 11 = .ok (.ifCond .ne 5, 3) := by decide +kernel
theorem d_O_joined_14 : decode prog_1_method_22_code 14 = .ok (.iconst (-1), 1) := by decide +kernel
theorem d_O_joined_15 : decode prog_1_method_22_code 15 = .ok (.ireturn, 1) := by decide +kernel
theorem d_O_joined_16 : decode prog_1_method_22_code 16 = .ok (.iload_n 2, 1) := by decide +kernel
theorem d_O_joined_17 : decode prog_1_method_22_code 17 = .ok (.iconst 4, 1) := by decide +kernel
theorem d_O_joined_18 : decode prog_1_method_22_code 18 = .ok (.if_icmp .lt 7, 3) := by decide +kernel
theorem d_O_joined_21 : decode prog_1_method_22_code 21 = .ok (.iconst 1, 1) := by decide +kernel
theorem d_O_joined_22 : decode prog_1_method_22_code 22 = .ok (.goto 4, 3) := by decide +kernel
theorem d_O_joined_25 : decode prog_1_method_22_code 25 = .ok (.iconst 0, 1) := by decide +kernel
theorem d_O_joined_26 : decode prog_1_method_22_code 26 = .ok (.istore_n 3, 1) := by decide +kernel
theorem d_O_joined_27 : decode prog_1_method_22_code 27 = .ok (.iload_n 3, 1) := by decide +kernel
theorem d_O_joined_28 : decode prog_1_method_22_code 28 = .ok (.ifCond .eq 15, 3) := by decide +kernel
theorem d_O_joined_31 : decode prog_1_method_22_code 31 = .ok (.iload_n 2, 1) := by decide +kernel
theorem d_O_joined_32 : decode prog_1_method_22_code 32 = .ok (.iconst 4, 1) := by decide +kernel
theorem d_O_joined_33 : decode prog_1_method_22_code 33 = .ok (.irem, 1) := by decide +kernel
theorem d_O_joined_34 : decode prog_1_method_22_code 34 = .ok (.iload_n 1, 1) := by decide +kernel
theorem d_O_joined_35 : decode prog_1_method_22_code 35 = .ok (.iconst 4, 1) := by decide +kernel
theorem d_O_joined_36 : decode prog_1_method_22_code 36 = .ok (.irem, 1) := by decide +kernel
theorem d_O_joined_37 : decode prog_1_method_22_code 37 = .ok (.isub, 1) := by decide +kernel
theorem d_O_joined_38 : decode prog_1_method_22_code 38 = .ok (.iconst 4, 1) := by decide +kernel
theorem d_O_joined_39 : decode prog_1_method_22_code 39 = .ok (.iadd, 1) := by decide +kernel
theorem d_O_joined_40 : decode prog_1_method_22_code 40 = .ok (.goto 10, 3) := by decide +kernel
theorem d_O_joined_43 : decode prog_1_method_22_code 43 = .ok (.iload_n 2, 1) := by decide +kernel
theorem d_O_joined_44 : decode prog_1_method_22_code 44 = .ok (.iconst 4, 1) := by decide +kernel
theorem d_O_joined_45 : decode prog_1_method_22_code 45 = .ok (.irem, 1) := by decide +kernel
theorem d_O_joined_46 : decode prog_1_method_22_code 46 = .ok (.iload_n 1, 1) := by decide +kernel
theorem d_O_joined_47 : decode prog_1_method_22_code 47 = .ok (.iconst 4, 1) := by decide +kernel
theorem d_O_joined_48 : decode prog_1_method_22_code 48 = .ok (.irem, 1) := by decide +kernel
theorem d_O_joined_49 : decode prog_1_method_22_code 49 = .ok (.iadd, 1) := by decide +kernel
theorem d_O_joined_50 : decode prog_1_method_22_code 50 = .ok (.istore 4, 2) := by decide +kernel
theorem d_O_joined_52 : decode prog_1_method_22_code 52 = .ok (.iload_n 1, 1) := by decide +kernel
theorem d_O_joined_53 : decode prog_1_method_22_code 53 = .ok (.iconst 4, 1) := by decide +kernel
theorem d_O_joined_54 : decode prog_1_method_22_code 54 = .ok (.if_icmp .lt 7, 3) := by decide +kernel
theorem d_O_joined_57 : decode prog_1_method_22_code 57 = .ok (.iconst 1, 1) := by decide +kernel
theorem d_O_joined_58 : decode prog_1_method_22_code 58 = .ok (.goto 4, 3) := by decide +kernel
theorem d_O_joined_61 : decode prog_1_method_22_code 61 = .ok (.iconst 0, 1) := by decide +kernel
theorem d_O_joined_62 : decode prog_1_method_22_code 62 = .ok (.iload_n 3, 1) := by decide +kernel
theorem d_O_joined_63 : decode prog_1_method_22_code 63 = .ok (.if_icmp .eq 7, 3) := by decide +kernel
theorem d_O_joined_66 : decode prog_1_method_22_code 66 = .ok (.iconst 1, 1) := by decide +kernel
theorem d_O_joined_67 : decode prog_1_method_22_code 67 = .ok (.goto 4, 3) := by decide +kernel
theorem d_O_joined_70 : decode prog_1_method_22_code 70 = .ok (.iconst 0, 1) := by decide +kernel
theorem d_O_joined_71 : decode prog_1_method_22_code 71 = .ok (.istore 5, 2) := by decide +kernel
theorem d_O_joined_73 : decode prog_1_method_22_code 73 = .ok (.iload 4, 2) := by decide +kernel
theorem d_O_joined_75 : decode prog_1_method_22_code 75 = .ok (.iconst 4, 1) := by decide +kernel
theorem d_O_joined_76 : decode prog_1_method_22_code 76 = .ok (.irem, 1) := by decide +kernel
theorem d_O_joined_77 : decode prog_1_method_22_code 77 = .ok (.iload 5, 2) := by decide +kernel
theorem d_O_joined_79 : decode prog_1_method_22_code 79 = .ok (.ifCond .eq 7, 3) := by decide +kernel
theorem d_O_joined_82 : decode prog_1_method_22_code 82 = .ok (.iconst 4, 1) := by decide +kernel
theorem d_O_joined_83 : decode prog_1_method_22_code 83 = .ok (.goto 4, 3) := by decide +kernel
theorem d_O_joined_86 : decode prog_1_method_22_code 86 = .ok (.iconst 0, 1) := by decide +kernel
theorem d_O_joined_87 : decode prog_1_method_22_code 87 = .ok (.iadd, 1) := by decide +kernel
theorem d_O_joined_88 : decode prog_1_method_22_code 88 = .ok (.ireturn, 1) := by decide +kernel
theorem d_O_own_0 : decode prog_1_method_23_code 0 = .ok (.iload_n 1, 1) := by decide +kernel
theorem d_O_own_1 : decode prog_1_method_23_code 1 = .ok (.invokestatic 73, 3) := by decide +kernel
theorem d_O_own_4 : decode prog_1_method_23_code 4 = .ok (.ifCond .ne 5, 3) := by decide +kernel
theorem d_O_own_7 : decode prog_1_method_23_code 7 = .ok (.iconst (-1), 1) := by decide +kernel
theorem d_O_own_8 : decode prog_1_method_23_code 8 = .ok (.ireturn, 1) := by decide +kernel
theorem d_O_own_9 : decode prog_1_method_23_code 9 = .ok (.iconst 0, 1) := by decide +kernel
theorem d_O_own_10 : decode prog_1_method_23_code 10 = .ok (.istore_n 2, 1) := by decide +kernel
theorem d_O_own_11 : decode prog_1_method_23_code 11 = .ok (.iconst 0, 1) := by decide +kernel
theorem d_O_own_12 : decode prog_1_method_23_code 12 = .ok (.istore_n 3, 1) := by decide +kernel
theorem d_O_own_13 : decode prog_1_method_23_code 13 = .ok (.iload_n 3, 1) := by decide +kernel
theorem d_O_own_14 : decode prog_1_method_23_code 14 = .ok (.bipush 8, 2) := by decide +kernel
theorem d_O_own_16 : decode prog_1_method_23_code 16 = .ok (.if_icmp .ge 24, 3) := by decide +kernel
theorem d_O_own_19 : decode prog_1_method_23_code 19 = .ok (.iload_n 1, 1) := by decide +kernel
theorem d_O_own_20 : decode prog_1_method_23_code 20 = .ok (.iload_n 3, 1) := by decide +kernel
theorem d_O_own_21 : decode prog_1_method_23_code 21 = .ok (.invokestatic 230, 3) := by decide +kernel
theorem d_O_own_24 : decode prog_1_method_23_code 24 = .ok (.iload_n 1, 1) := by decide +kernel
theorem d_O_own_25 : decode prog_1_method_23_code 25 = .ok (.if_icmp .ne 9, 3) := by decide +kernel
theorem d_O_own_28 : decode prog_1_method_23_code 28 = .ok (.iload_n 2, 1) := by decide +kernel
theorem d_O_own_29 : decode prog_1_method_23_code 29 = .ok (.iconst 1, 1) := by decide +kernel
theorem d_O_own_30 : decode prog_1_method_23_code 30 = .ok (.iload_n 3, 1) := by decide +kernel
theorem d_O_own_31 : decode prog_1_method_23_code 31 = .ok (.ishl, 1) := by decide +kernel
theorem d_O_own_32 : decode prog_1_method_23_code 32 = .ok (.ior, 1) := by decide +kernel
theorem d_O_own_33 : decode prog_1_method_23_code 33 = .ok (.istore_n 2, 1) := by decide +kernel
theorem d_O_own_34 : decode prog_1_method_23_code 34 = .ok (.iinc 3 1, 3) := by decide +kernel
theorem d_O_own_37 : decode prog_1_method_23_code 37 = .ok (.goto (-24), 3) := by decide +kernel
theorem d_O_own_40 : decode prog_1_method_23_code 40 = .ok (.iload_n 2, 1) := by decide +kernel
theorem d_O_own_41 : decode prog_1_method_23_code 41 = .ok (.ireturn, 1) := by decide +kernel
theorem d_O_least_0 : decode prog_1_method_24_code 0 = .ok (.iload_n 1, 1) := by decide +kernel
theorem d_O_least_1 : decode prog_1_method_24_code 1 = .ok (.invokestatic 73, 3) := by decide +kernel
theorem d_O_least_4 : decode prog_1_method_24_code 4 = .ok (.ifCond .ne 5, 3) := by decide +kernel
theorem d_O_least_7 : decode prog_1_method_24_code 7 = .ok (.iconst (-1), 1) := by decide +kernel
theorem d_O_least_8 : decode prog_1_method_24_code 8 = .ok (.ireturn, 1) := by decide +kernel
theorem d_O_least_9 : decode prog_1_method_24_code 9 = .ok (.iload_n 1, 1) := by decide +kernel
theorem d_O_least_10 : decode prog_1_method_24_code 10 = .ok (.istore_n 2, 1) := by decide +kernel
theorem d_O_least_11 : decode prog_1_method_24_code 11 = .ok (.iconst 1, 1) := by decide +kernel
theorem d_O_least_12 : decode prog_1_method_24_code 12 = .ok (.istore_n 3, 1) := by decide +kernel
theorem d_O_least_13 : decode prog_1_method_24_code 13 = .ok (.iload_n 3, 1) := by decide +kernel
theorem d_O_least_14 : decode prog_1_method_24_code 14 = .ok (.bipush 8, 2) := by decide +kernel
theorem d_O_least_16 : decode prog_1_method_24_code 16 = .ok (.if_icmp .ge 19, 3) := by decide +kernel
theorem d_O_least_19 : decode prog_1_method_24_code 19 = .ok (.iload_n 2, 1) := by decide +kernel
theorem d_O_least_20 : decode prog_1_method_24_code 20 = .ok (.iload_n 1, 1) := by decide +kernel
theorem d_O_least_21 : decode prog_1_method_24_code 21 = .ok (.iload_n 3, 1) := by decide +kernel
theorem d_O_least_22 : decode prog_1_method_24_code 22 = .ok (.invokestatic 230, 3) := by decide +kernel
theorem d_O_least_25 : decode prog_1_method_24_code 25 = .ok (.invokestatic 233, 3) := by decide +kernel
theorem d_O_least_28 : decode prog_1_method_24_code 28 = .ok (.istore_n 2, 1) := by decide +kernel
theorem d_O_least_29 : decode prog_1_method_24_code 29 = .ok (.iinc 3 1, 3) := by decide +kernel
theorem d_O_least_32 : decode prog_1_method_24_code 32 = .ok (.goto (-19), 3) := by decide +kernel
theorem d_O_least_35 : decode prog_1_method_24_code 35 = .ok (.iload_n 2, 1) := by decide +kernel
theorem d_O_least_36 : decode prog_1_method_24_code 36 = .ok (.ireturn, 1) := by decide +kernel
theorem d_O_pens_0 : decode prog_1_method_25_code 0 = .ok (.iload_n 1, 1) := by decide +kernel
theorem d_O_pens_1 : decode prog_1_method_25_code 1 = .ok (.invokestatic 73, 3) := by decide +kernel
theorem d_O_pens_4 : decode prog_1_method_25_code 4 = .ok (.ifCond .eq 10, 3) := by decide +kernel
theorem d_O_pens_7 : decode prog_1_method_25_code 7 = .ok (.iload_n 1, 1) := by decide +kernel
theorem d_O_pens_8 : decode prog_1_method_25_code 8 = .ok (.invokestatic 238, 3) := by decide +kernel
theorem d_O_pens_11 : decode prog_1_method_25_code 11 = .ok (.goto 4, 3) := by decide +kernel
theorem d_O_pens_14 : decode prog_1_method_25_code 14 = .ok (.iconst (-1), 1) := by decide +kernel
theorem d_O_pens_15 : decode prog_1_method_25_code 15 = .ok (.ireturn, 1) := by decide +kernel
theorem d_K_countPens_0 : decode prog_7_method_11_code 0 = .ok (.iconst 0, 1) := by decide +kernel
theorem d_K_countPens_1 : decode prog_7_method_11_code 1 = .ok (.istore_n 1, 1) := by decide +kernel
theorem d_K_countPens_2 : decode prog_7_method_11_code 2 = .ok (.iload_n 0, 1) := by decide +kernel
theorem d_K_countPens_3 : decode prog_7_method_11_code 3 = .ok (.invokestatic 34, 3) := by decide +kernel
theorem d_K_countPens_6 : decode prog_7_method_11_code 6 = .ok (.istore_n 2, 1) := by decide +kernel
theorem d_K_countPens_7 : decode prog_7_method_11_code 7 = .ok (.iload_n 0, 1) := by decide +kernel
theorem d_K_countPens_8 : decode prog_7_method_11_code 8 = .ok (.invokestatic 18, 3) := by decide +kernel
theorem d_K_countPens_11 : decode prog_7_method_11_code 11 = .ok (.istore_n 3, 1) := by decide +kernel
theorem d_K_countPens_12 : decode prog_7_method_11_code 12 = .ok (.iconst 0, 1) := by decide +kernel
theorem d_K_countPens_13 : decode prog_7_method_11_code 13 = .ok (.istore 4, 2) := by decide +kernel
theorem d_K_countPens_15 : decode prog_7_method_11_code 15 = .ok (.iload 4, 2) := by decide +kernel
theorem d_K_countPens_17 : decode prog_7_method_11_code 17 = .ok (.bipush 9, 2) := by decide +kernel
theorem d_K_countPens_19 : decode prog_7_method_11_code 19 = .ok (.if_icmp .ge 50, 3) := by decide +kernel
theorem d_K_countPens_22 : decode prog_7_method_11_code 22 = .ok (.iload_n 3, 1) := by decide +kernel
theorem d_K_countPens_23 : decode prog_7_method_11_code 23 = .ok (.iload 4, 2) := by decide +kernel
theorem d_K_countPens_25 : decode prog_7_method_11_code 25 = .ok (.ishr, 1) := by decide +kernel
theorem d_K_countPens_26 : decode prog_7_method_11_code 26 = .ok (.iconst 1, 1) := by decide +kernel
theorem d_K_countPens_27 : decode prog_7_method_11_code 27 = .ok (.iand, 1) := by decide +kernel
theorem d_K_countPens_28 : decode prog_7_method_11_code 28 = .ok (.iconst 1, 1) := by decide +kernel
theorem d_K_countPens_29 : decode prog_7_method_11_code 29 = .ok (.if_icmp .ne 34, 3) := by decide +kernel
theorem d_K_countPens_32 : decode prog_7_method_11_code 32 = .ok (.iload 4, 2) := by decide +kernel
theorem d_K_countPens_34 : decode prog_7_method_11_code 34 = .ok (.iload_n 0, 1) := by decide +kernel
theorem d_K_countPens_35 : decode prog_7_method_11_code 35 = .ok (.invokestatic 22, 3) := by decide +kernel
theorem d_K_countPens_38 : decode prog_7_method_11_code 38 = .ok (.istore 5, 2) := by decide +kernel
theorem d_K_countPens_40 : decode prog_7_method_11_code 40 = .ok (.iload_n 3, 1) := by decide +kernel
theorem d_K_countPens_41 : decode prog_7_method_11_code 41 = .ok (.iload 5, 2) := by decide +kernel
theorem d_K_countPens_43 : decode prog_7_method_11_code 43 = .ok (.iconst (-1), 1) := by decide +kernel
theorem d_K_countPens_44 : decode prog_7_method_11_code 44 = .ok (.ixor, 1) := by decide +kernel
theorem d_K_countPens_45 : decode prog_7_method_11_code 45 = .ok (.iand, 1) := by decide +kernel
theorem d_K_countPens_46 : decode prog_7_method_11_code 46 = .ok (.istore_n 3, 1) := by decide +kernel
theorem d_K_countPens_47 : decode prog_7_method_11_code 47 = .ok (.iload_n 1, 1) := by decide +kernel
theorem d_K_countPens_48 : decode prog_7_method_11_code 48 = .ok (.iconst 1, 1) := by decide +kernel
theorem d_K_countPens_49 : decode prog_7_method_11_code 49 = .ok (.iload_n 2, 1) := by decide +kernel
theorem d_K_countPens_50 : decode prog_7_method_11_code 50 = .ok (.iload 5, 2) := by decide +kernel
theorem d_K_countPens_52 : decode prog_7_method_11_code 52 = .ok (.iand, 1) := by decide +kernel
theorem d_K_countPens_53 : decode prog_7_method_11_code 53 = .ok (.invokestatic 26, 3) := by decide +kernel
theorem d_K_countPens_56 : decode prog_7_method_11_code 56 = .ok (.iconst 2, 1) := by decide +kernel
theorem d_K_countPens_57 : decode prog_7_method_11_code 57 = .ok (.idiv, 1) := by decide +kernel
theorem d_K_countPens_58 : decode prog_7_method_11_code 58 = .ok (.invokestatic 37, 3) := by decide +kernel
theorem d_K_countPens_61 : decode prog_7_method_11_code 61 = .ok (.iadd, 1) := by decide +kernel
theorem d_K_countPens_62 : decode prog_7_method_11_code 62 = .ok (.istore_n 1, 1) := by decide +kernel
theorem d_K_countPens_63 : decode prog_7_method_11_code 63 = .ok (.iinc 4 1, 3) := by decide +kernel
theorem d_K_countPens_66 : decode prog_7_method_11_code 66 = .ok (.goto (-51), 3) := by decide +kernel
theorem d_K_countPens_69 : decode prog_7_method_11_code 69 = .ok (.iload_n 1, 1) := by decide +kernel
theorem d_K_countPens_70 : decode prog_7_method_11_code 70 = .ok (.ireturn, 1) := by decide +kernel
theorem d_O_trail_0 : decode prog_1_method_26_code 0 = .ok (.iload_n 1, 1) := by decide +kernel
theorem d_O_trail_1 : decode prog_1_method_26_code 1 = .ok (.invokestatic 73, 3) := by decide +kernel
theorem d_O_trail_4 : decode prog_1_method_26_code 4 = .ok (.ifCond .ne 6, 3) := by decide +kernel
theorem d_O_trail_7 : decode prog_1_method_26_code 7 = .ok (.bipush (-2), 2) := by decide +kernel
theorem d_O_trail_9 : decode prog_1_method_26_code 9 = .ok (.ireturn, 1) := by decide +kernel
theorem d_O_trail_10 : decode prog_1_method_26_code 10 = .ok (.aload_n 0, 1) := by decide +kernel
theorem d_O_trail_11 : decode prog_1_method_26_code 11 = .ok (.getfield 65, 3) := by decide +kernel
theorem d_O_trail_14 : decode prog_1_method_26_code 14 = .ok (.iload_n 1, 1) := by decide +kernel
theorem d_O_trail_15 : decode prog_1_method_26_code 15 = .ok (.invokestatic 241, 3) := by decide +kernel
theorem d_O_trail_18 : decode prog_1_method_26_code 18 = .ok (.istore_n 3, 1) := by decide +kernel
theorem d_O_trail_19 : decode prog_1_method_26_code 19 = .ok (.iload_n 3, 1) := by decide +kernel
theorem d_O_trail_20 : decode prog_1_method_26_code 20 = .ok (.ifCond .ne 6, 3) := by decide +kernel
theorem d_O_trail_23 : decode prog_1_method_26_code 23 = .ok (.bipush (-2), 2) := by decide +kernel
theorem d_O_trail_25 : decode prog_1_method_26_code 25 = .ok (.ireturn, 1) := by decide +kernel
theorem d_O_trail_26 : decode prog_1_method_26_code 26 = .ok (.iload_n 2, 1) := by decide +kernel
theorem d_O_trail_27 : decode prog_1_method_26_code 27 = .ok (.iconst (-1), 1) := by decide +kernel
theorem d_O_trail_28 : decode prog_1_method_26_code 28 = .ok (.if_icmp .ne 5, 3) := by decide +kernel
theorem d_O_trail_31 : decode prog_1_method_26_code 31 = .ok (.iload_n 3, 1) := by decide +kernel
theorem d_O_trail_32 : decode prog_1_method_26_code 32 = .ok (.ireturn, 1) := by decide +kernel
theorem d_O_trail_33 : decode prog_1_method_26_code 33 = .ok (.iload_n 2, 1) := by decide +kernel
theorem d_O_trail_34 : decode prog_1_method_26_code 34 = .ok (.ifCond .lt 17, 3) := by decide +kernel
theorem d_O_trail_37 : decode prog_1_method_26_code 37 = .ok (.iload_n 2, 1) := by decide +kernel
theorem d_O_trail_38 : decode prog_1_method_26_code 38 = .ok (.iload_n 3, 1) := by decide +kernel
theorem d_O_trail_39 : decode prog_1_method_26_code 39 = .ok (.if_icmp .ge 12, 3) := by decide +kernel
theorem d_O_trail_42 : decode prog_1_method_26_code 42 = .ok (.aload_n 0, 1) := by decide +kernel
theorem d_O_trail_43 : decode prog_1_method_26_code 43 = .ok (.getfield 65, 3) := by decide +kernel
theorem d_O_trail_46 : decode prog_1_method_26_code 46 = .ok (.iload_n 2, 1) := by decide +kernel
theorem d_O_trail_47 : decode prog_1_method_26_code 47 = .ok (.iaload, 1) := by decide +kernel
theorem d_O_trail_48 : decode prog_1_method_26_code 48 = .ok (.goto 5, 3) := by decide +kernel
theorem d_O_trail_51 : decode prog_1_method_26_code 51 = .ok (.bipush (-2), 2) := by decide +kernel
theorem d_O_trail_53 : decode prog_1_method_26_code 53 = .ok (.ireturn, 1) := by decide +kernel
theorem d_K_trailInto_0 : decode prog_7_method_12_code 0 = .ok (.iload_n 1, 1) := by decide +kernel
theorem d_K_trailInto_1 : decode prog_7_method_12_code 1 = .ok (.invokestatic 42, 3) := by decide +kernel
theorem d_K_trailInto_4 : decode prog_7_method_12_code 4 = .ok (.iconst 1, 1) := by decide +kernel
theorem d_K_trailInto_5 : decode prog_7_method_12_code 5 = .ok (.if_icmp .eq 5, 3) := by decide +kernel
theorem d_K_trailInto_8 : decode prog_7_method_12_code 8 = .ok (.iconst 0, 1) := by decide +kernel
theorem d_K_trailInto_9 : decode prog_7_method_12_code 9 = .ok (.ireturn, 1) := by decide +kernel
theorem d_K_trailInto_10 : decode prog_7_method_12_code 10 = .ok (.iload_n 1, 1) := by decide +kernel
theorem d_K_trailInto_11 : decode prog_7_method_12_code 11 = .ok (.invokestatic 34, 3) := by decide +kernel
theorem d_K_trailInto_14 : decode prog_7_method_12_code 14 = .ok (.istore_n 2, 1) := by decide +kernel
theorem d_K_trailInto_15 : decode prog_7_method_12_code 15 = .ok (.iload_n 2, 1) := by decide +kernel
theorem d_K_trailInto_16 : decode prog_7_method_12_code 16 = .ok (.ifCond .eq 7, 3) := by decide +kernel
theorem d_K_trailInto_19 : decode prog_7_method_12_code 19 = .ok (.iload_n 2, 1) := by decide +kernel
theorem d_K_trailInto_20 : decode prog_7_method_12_code 20 = .ok (.goto 7, 3) := by decide +kernel
theorem d_K_trailInto_23 : decode prog_7_method_12_code 23 = .ok (.iload_n 1, 1) := by decide +kernel
theorem d_K_trailInto_24 : decode prog_7_method_12_code 24 = .ok (.invokestatic 18, 3) := by decide +kernel
theorem d_K_trailInto_27 : decode prog_7_method_12_code 27 = .ok (.invokestatic 45, 3) := by decide +kernel
theorem d_K_trailInto_30 : decode prog_7_method_12_code 30 = .ok (.istore_n 3, 1) := by decide +kernel
theorem d_K_trailInto_31 : decode prog_7_method_12_code 31 = .ok (.iload_n 1, 1) := by decide +kernel
theorem d_K_trailInto_32 : decode prog_7_method_12_code 32 = .ok (.istore 4, 2) := by decide +kernel
theorem d_K_trailInto_34 : decode prog_7_method_12_code 34 = .ok (.iconst 0, 1) := by decide +kernel
theorem d_K_trailInto_35 : decode prog_7_method_12_code 35 = .ok (.istore 5, 2) := by decide +kernel
theorem d_K_trailInto_37 : decode prog_7_method_12_code 37 = .ok (.iload 4, 2) := by decide +kernel
theorem d_K_trailInto_39 : decode prog_7_method_12_code 39 = .ok (.ifCond .eq 69, 3) := by decide +kernel
theorem d_K_trailInto_42 : decode prog_7_method_12_code 42 = .ok (.iload_n 3, 1) := by decide +kernel
theorem d_K_trailInto_43 : decode prog_7_method_12_code 43 = .ok (.bipush 9, 2) := by decide +kernel
theorem d_K_trailInto_45 : decode prog_7_method_12_code 45 = .ok (.if_icmp .ge 63, 3) := by decide +kernel
theorem d_K_trailInto_48 : decode prog_7_method_12_code 48 = .ok (.iload 5, 2) := by decide +kernel
theorem d_K_trailInto_50 : decode prog_7_method_12_code 50 = .ok (.iconst 1, 1) := by decide +kernel
theorem d_K_trailInto_51 : decode prog_7_method_12_code 51 = .ok (.iadd, 1) := by decide +kernel
theorem d_K_trailInto_52 : decode prog_7_method_12_code 52 = .ok (.aload_n 0, 1) := by decide +kernel
theorem d_K_trailInto_53 : decode prog_7_method_12_code 53 = .ok (.arraylength, 1) := by decide +kernel
theorem d_K_trailInto_54 : decode prog_7_method_12_code 54 = .ok (.if_icmp .ge 54, 3) := by decide +kernel
theorem d_K_trailInto_57 : decode prog_7_method_12_code 57 = .ok (.aload_n 0, 1) := by decide +kernel
theorem d_K_trailInto_58 : decode prog_7_method_12_code 58 = .ok (.iload 5, 2) := by decide +kernel
theorem d_K_trailInto_60 : decode prog_7_method_12_code 60 = .ok (.iload_n 3, 1) := by decide +kernel
theorem d_K_trailInto_61 : decode prog_7_method_12_code 61 = .ok (.iastore, 1) := by decide +kernel
theorem d_K_trailInto_62 : decode prog_7_method_12_code 62 = .ok (.iinc 5 1, 3) := by decide +kernel
theorem d_K_trailInto_65 : decode prog_7_method_12_code 65 = .ok (.iload_n 3, 1) := by decide +kernel
theorem d_K_trailInto_66 : decode prog_7_method_12_code 66 = .ok (.iload 4, 2) := by decide +kernel
theorem d_K_trailInto_68 : decode prog_7_method_12_code 68 = .ok (.invokestatic 48, 3) := by decide +kernel
theorem d_K_trailInto_71 : decode prog_7_method_12_code 71 = .ok (.istore 6, 2) := by decide +kernel
theorem d_K_trailInto_73 : decode prog_7_method_12_code 73 = .ok (.iload_n 3, 1) := by decide +kernel
theorem d_K_trailInto_74 : decode prog_7_method_12_code 74 = .ok (.iload 6, 2) := by decide +kernel
theorem d_K_trailInto_76 : decode prog_7_method_12_code 76 = .ok (.invokestatic 51, 3) := by decide +kernel
theorem d_K_trailInto_79 : decode prog_7_method_12_code 79 = .ok (.istore 7, 2) := by decide +kernel
theorem d_K_trailInto_81 : decode prog_7_method_12_code 81 = .ok (.iload 7, 2) := by decide +kernel
theorem d_K_trailInto_83 : decode prog_7_method_12_code 83 = .ok (.iconst (-1), 1) := by decide +kernel
theorem d_K_trailInto_84 : decode prog_7_method_12_code 84 = .ok (.if_icmp .ne 7, 3) := by decide +kernel
theorem d_K_trailInto_87 : decode prog_7_method_12_code 87 = .ok (.iconst 0, 1) := by decide +kernel
theorem d_K_trailInto_88 : decode prog_7_method_12_code 88 = .ok (.goto 12, 3) := by decide +kernel
theorem d_K_trailInto_91 : decode prog_7_method_12_code 91 = .ok (.iload 4, 2) := by decide +kernel
theorem d_K_trailInto_93 : decode prog_7_method_12_code 93 = .ok (.iconst 1, 1) := by decide +kernel
theorem d_K_trailInto_94 : decode prog_7_method_12_code 94 = .ok (.iload 7, 2) := by decide +kernel
theorem d_K_trailInto_96 : decode prog_7_method_12_code 96 = .ok (.ishl, 1) := by decide +kernel
theorem d_K_trailInto_97 : decode prog_7_method_12_code 97 = .ok (.iconst (-1), 1) := by decide +kernel
theorem d_K_trailInto_98 : decode prog_7_method_12_code 98 = .ok (.ixor, 1) := by decide +kernel
theorem d_K_trailInto_99 : decode prog_7_method_12_code 99 = .ok (.iand, 1) := by decide +kernel
theorem d_K_trailInto_100 : decode prog_7_method_12_code 100 = .ok (.istore 4, 2) := by decide +kernel
theorem d_K_trailInto_102 : decode prog_7_method_12_code 102 = .ok (.iload 6, 2) := by decide +kernel
theorem d_K_trailInto_104 : decode prog_7_method_12_code 104 = .ok (.istore_n 3, 1) := by decide +kernel
theorem d_K_trailInto_105 : decode prog_7_method_12_code 105 = .ok (.goto (-68), 3) := by decide +kernel
theorem d_K_trailInto_108 : decode prog_7_method_12_code 108 = .ok (.aload_n 0, 1) := by decide +kernel
theorem d_K_trailInto_109 : decode prog_7_method_12_code 109 = .ok (.iload 5, 2) := by decide +kernel
theorem d_K_trailInto_111 : decode prog_7_method_12_code 111 = .ok (.iload_n 3, 1) := by decide +kernel
theorem d_K_trailInto_112 : decode prog_7_method_12_code 112 = .ok (.iastore, 1) := by decide +kernel
theorem d_K_trailInto_113 : decode prog_7_method_12_code 113 = .ok (.iload 5, 2) := by decide +kernel
theorem d_K_trailInto_115 : decode prog_7_method_12_code 115 = .ok (.iconst 1, 1) := by decide +kernel
theorem d_K_trailInto_116 : decode prog_7_method_12_code 116 = .ok (.iadd, 1) := by decide +kernel
theorem d_K_trailInto_117 : decode prog_7_method_12_code 117 = .ok (.ireturn, 1) := by decide +kernel
theorem d_K_placeOfLowest_0 : decode prog_7_method_22_code 0 = .ok (.iload_n 0, 1) := by decide +kernel
theorem d_K_placeOfLowest_1 : decode prog_7_method_22_code 1 = .ok (.iload_n 0, 1) := by decide +kernel
theorem d_K_placeOfLowest_2 : decode prog_7_method_22_code 2 = .ok (.ineg, 1) := by decide +kernel
theorem d_K_placeOfLowest_3 : decode prog_7_method_22_code 3 = .ok (.iand, 1) := by decide +kernel
theorem d_K_placeOfLowest_4 : decode prog_7_method_22_code 4 = .ok (.iconst 1, 1) := by decide +kernel
theorem d_K_placeOfLowest_5 : decode prog_7_method_22_code 5 = .ok (.isub, 1) := by decide +kernel
theorem d_K_placeOfLowest_6 : decode prog_7_method_22_code 6 = .ok (.invokestatic 26, 3) := by decide +kernel
theorem d_K_placeOfLowest_9 : decode prog_7_method_22_code 9 = .ok (.ireturn, 1) := by decide +kernel
theorem d_K_nextOnTrail_0 : decode prog_7_method_13_code 0 = .ok (.iconst 0, 1) := by decide +kernel
theorem d_K_nextOnTrail_1 : decode prog_7_method_13_code 1 = .ok (.istore_n 2, 1) := by decide +kernel
theorem d_K_nextOnTrail_2 : decode prog_7_method_13_code 2 = .ok (.iload_n 2, 1) := by decide +kernel
theorem d_K_nextOnTrail_3 : decode prog_7_method_13_code 3 = .ok (.bipush 9, 2) := by decide +kernel
theorem d_K_nextOnTrail_5 : decode prog_7_method_13_code 5 = .ok (.if_icmp .ge 59, 3) := by decide +kernel
theorem d_K_nextOnTrail_8 : decode prog_7_method_13_code 8 = .ok (.iload_n 0, 1) := by decide +kernel
theorem d_K_nextOnTrail_9 : decode prog_7_method_13_code 9 = .ok (.iload_n 2, 1) := by decide +kernel
theorem d_K_nextOnTrail_10 : decode prog_7_method_13_code 10 = .ok (.invokestatic 51, 3) := by decide +kernel
theorem d_K_nextOnTrail_13 : decode prog_7_method_13_code 13 = .ok (.istore_n 3, 1) := by decide +kernel
theorem d_K_nextOnTrail_14 : decode prog_7_method_13_code 14 = .ok (.iload_n 3, 1) := by decide +kernel
theorem d_K_nextOnTrail_15 : decode prog_7_method_13_code 15 = .ok (.iconst (-1), 1) := by decide +kernel
theorem d_K_nextOnTrail_16 : decode prog_7_method_13_code 16 = .ok (.if_icmp .eq 42, 3) := by decide +kernel
theorem d_K_nextOnTrail_19 : decode prog_7_method_13_code 19 = .ok (.iload_n 1, 1) := by decide +kernel
theorem d_K_nextOnTrail_20 : decode prog_7_method_13_code 20 = .ok (.iload_n 3, 1) := by decide +kernel
theorem d_K_nextOnTrail_21 : decode prog_7_method_13_code 21 = .ok (.ishr, 1) := by decide +kernel
theorem d_K_nextOnTrail_22 : decode prog_7_method_13_code 22 = .ok (.iconst 1, 1) := by decide +kernel
theorem d_K_nextOnTrail_23 : decode prog_7_method_13_code 23 = .ok (.iand, 1) := by decide +kernel
theorem d_K_nextOnTrail_24 : decode prog_7_method_13_code 24 = .ok (.iconst 1, 1) := by decide +kernel
theorem d_K_nextOnTrail_25 : decode prog_7_method_13_code 25 = .ok (.if_icmp .ne 33, 3) := by decide +kernel
theorem d_K_nextOnTrail_28 : decode prog_7_method_13_code 28 = .ok (.iload_n 1, 1) := by decide +kernel
theorem d_K_nextOnTrail_29 : decode prog_7_method_13_code 29 = .ok (.iconst 1, 1) := by decide +kernel
theorem d_K_nextOnTrail_30 : decode prog_7_method_13_code 30 = .ok (.iload_n 3, 1) := by decide +kernel
theorem d_K_nextOnTrail_31 : decode prog_7_method_13_code 31 = .ok (.ishl, 1) := by decide +kernel
theorem d_K_nextOnTrail_32 : decode prog_7_method_13_code 32 = .ok (.iconst (-1), 1) := by decide +kernel
theorem d_K_nextOnTrail_33 : decode prog_7_method_13_code 33 = .ok (.ixor, 1) := by decide +kernel
theorem d_K_nextOnTrail_34 : decode prog_7_method_13_code 34 = .ok (.iand, 1) := by decide +kernel
theorem d_K_nextOnTrail_35 : decode prog_7_method_13_code 35 = .ok (.istore 4, 2) := by decide +kernel
theorem d_K_nextOnTrail_37 : decode prog_7_method_13_code 37 = .ok (.iload 4, 2) := by decide +kernel
theorem d_K_nextOnTrail_39 : decode prog_7_method_13_code 39 = .ok (.ifCond .eq 17, 3) := by decide +kernel
theorem d_K_nextOnTrail_42 : decode prog_7_method_13_code 42 = .ok (.iload_n 2, 1) := by decide +kernel
theorem d_K_nextOnTrail_43 : decode prog_7_method_13_code 43 = .ok (.iload 4, 2) := by decide +kernel
theorem d_K_nextOnTrail_45 : decode prog_7_method_13_code 45 = .ok (.invokestatic 22, 3) := by decide +kernel
theorem d_K_nextOnTrail_48 : decode prog_7_method_13_code 48 = .ok (.iload 4, 2) := by decide +kernel
theorem d_K_nextOnTrail_50 : decode prog_7_method_13_code 50 = .ok (.invokestatic 18, 3) := by decide +kernel
theorem d_K_nextOnTrail_53 : decode prog_7_method_13_code 53 = .ok (.if_icmp .ne 5, 3) := by decide +kernel
theorem d_K_nextOnTrail_56 : decode prog_7_method_13_code 56 = .ok (.iload_n 2, 1) := by decide +kernel
theorem d_K_nextOnTrail_57 : decode prog_7_method_13_code 57 = .ok (.ireturn, 1) := by decide +kernel
theorem d_K_nextOnTrail_58 : decode prog_7_method_13_code 58 = .ok (.iinc 2 1, 3) := by decide +kernel
theorem d_K_nextOnTrail_61 : decode prog_7_method_13_code 61 = .ok (.goto (-59), 3) := by decide +kernel
theorem d_K_nextOnTrail_64 : decode prog_7_method_13_code 64 = .ok (.iload_n 0, 1) := by decide +kernel
theorem d_K_nextOnTrail_65 : decode prog_7_method_13_code 65 = .ok (.ireturn, 1) := by decide +kernel
theorem d_O_rim_0 : decode prog_1_method_27_code 0 = .ok (.iload_n 1, 1) := by decide +kernel
theorem d_O_rim_1 : decode prog_1_method_27_code 1 = .ok (.invokestatic 73, 3) := by decide +kernel
theorem d_O_rim_4 : decode prog_1_method_27_code 4 = .ok (.ifCond .eq 10, 3) := by decide +kernel
theorem d_O_rim_7 : decode prog_1_method_27_code 7 = .ok (.iload_n 1, 1) := by decide +kernel
theorem d_O_rim_8 : decode prog_1_method_27_code 8 = .ok (.invokestatic 245, 3) := by decide +kernel
theorem d_O_rim_11 : decode prog_1_method_27_code 11 = .ok (.goto 4, 3) := by decide +kernel
theorem d_O_rim_14 : decode prog_1_method_27_code 14 = .ok (.iconst (-1), 1) := by decide +kernel
theorem d_O_rim_15 : decode prog_1_method_27_code 15 = .ok (.ireturn, 1) := by decide +kernel
theorem d_K_pointsOfOne_0 : decode prog_7_method_6_code 0 = .ok (.iconst 0, 1) := by decide +kernel
theorem d_K_pointsOfOne_1 : decode prog_7_method_6_code 1 = .ok (.istore_n 1, 1) := by decide +kernel
theorem d_K_pointsOfOne_2 : decode prog_7_method_6_code 2 = .ok (.iconst 0, 1) := by decide +kernel
theorem d_K_pointsOfOne_3 : decode prog_7_method_6_code 3 = .ok (.istore_n 2, 1) := by decide +kernel
theorem d_K_pointsOfOne_4 : decode prog_7_method_6_code 4 = .ok (.iconst 0, 1) := by decide +kernel
theorem d_K_pointsOfOne_5 : decode prog_7_method_6_code 5 = .ok (.istore_n 3, 1) := by decide +kernel
theorem d_K_pointsOfOne_6 : decode prog_7_method_6_code 6 = .ok (.iload_n 3, 1) := by decide +kernel
theorem d_K_pointsOfOne_7 : decode prog_7_method_6_code 7 = .ok (.bipush 20, 2) := by decide +kernel
theorem d_K_pointsOfOne_9 : decode prog_7_method_6_code 9 = .ok (.if_icmp .ge 36, 3) := by decide +kernel
theorem d_K_pointsOfOne_12 : decode prog_7_method_6_code 12 = .ok (.iload_n 0, 1) := by decide +kernel
theorem d_K_pointsOfOne_13 : decode prog_7_method_6_code 13 = .ok (.iload_n 3, 1) := by decide +kernel
theorem d_K_pointsOfOne_14 : decode prog_7_method_6_code 14 = .ok (.ishr, 1) := by decide +kernel
theorem d_K_pointsOfOne_15 : decode prog_7_method_6_code 15 = .ok (.iconst 1, 1) := by decide +kernel
theorem d_K_pointsOfOne_16 : decode prog_7_method_6_code 16 = .ok (.iand, 1) := by decide +kernel
theorem d_K_pointsOfOne_17 : decode prog_7_method_6_code 17 = .ok (.iconst 1, 1) := by decide +kernel
theorem d_K_pointsOfOne_18 : decode prog_7_method_6_code 18 = .ok (.if_icmp .ne 21, 3) := by decide +kernel
theorem d_K_pointsOfOne_21 : decode prog_7_method_6_code 21 = .ok (.iload_n 2, 1) := by decide +kernel
theorem d_K_pointsOfOne_22 : decode prog_7_method_6_code 22 = .ok (.iload_n 1, 1) := by decide +kernel
theorem d_K_pointsOfOne_23 : decode prog_7_method_6_code 23 = .ok (.getstatic 9, 3) := by decide +kernel
theorem d_K_pointsOfOne_26 : decode prog_7_method_6_code 26 = .ok (.iload_n 3, 1) := by decide +kernel
theorem d_K_pointsOfOne_27 : decode prog_7_method_6_code 27 = .ok (.iaload, 1) := by decide +kernel
theorem d_K_pointsOfOne_28 : decode prog_7_method_6_code 28 = .ok (.iand, 1) := by decide +kernel
theorem d_K_pointsOfOne_29 : decode prog_7_method_6_code 29 = .ok (.ior, 1) := by decide +kernel
theorem d_K_pointsOfOne_30 : decode prog_7_method_6_code 30 = .ok (.istore_n 2, 1) := by decide +kernel
theorem d_K_pointsOfOne_31 : decode prog_7_method_6_code 31 = .ok (.iload_n 1, 1) := by decide +kernel
theorem d_K_pointsOfOne_32 : decode prog_7_method_6_code 32 = .ok (.getstatic 9, 3) := by decide +kernel
theorem d_K_pointsOfOne_35 : decode prog_7_method_6_code 35 = .ok (.iload_n 3, 1) := by decide +kernel
theorem d_K_pointsOfOne_36 : decode prog_7_method_6_code 36 = .ok (.iaload, 1) := by decide +kernel
theorem d_K_pointsOfOne_37 : decode prog_7_method_6_code 37 = .ok (.ior, 1) := by decide +kernel
theorem d_K_pointsOfOne_38 : decode prog_7_method_6_code 38 = .ok (.istore_n 1, 1) := by decide +kernel
theorem d_K_pointsOfOne_39 : decode prog_7_method_6_code 39 = .ok (.iinc 3 1, 3) := by decide +kernel
theorem d_K_pointsOfOne_42 : decode prog_7_method_6_code 42 = .ok (.goto (-36), 3) := by decide +kernel
theorem d_K_pointsOfOne_45 : decode prog_7_method_6_code 45 = .ok (.iload_n 1, 1) := by decide +kernel
theorem d_K_pointsOfOne_46 : decode prog_7_method_6_code 46 = .ok (.iload_n 2, 1) := by decide +kernel
theorem d_K_pointsOfOne_47 : decode prog_7_method_6_code 47 = .ok (.iconst (-1), 1) := by decide +kernel
theorem d_K_pointsOfOne_48 : decode prog_7_method_6_code 48 = .ok (.ixor, 1) := by decide +kernel
theorem d_K_pointsOfOne_49 : decode prog_7_method_6_code 49 = .ok (.iand, 1) := by decide +kernel
theorem d_K_pointsOfOne_50 : decode prog_7_method_6_code 50 = .ok (.ireturn, 1) := by decide +kernel
theorem d_O_alike_0 : decode prog_1_method_28_code 0 = .ok (.aload_n 0, 1) := by decide +kernel
theorem d_O_alike_1 : decode prog_1_method_28_code 1 = .ok (.iload_n 1, 1) := by decide +kernel
theorem d_O_alike_2 : decode prog_1_method_28_code 2 = .ok (.invokevirtual 166, 3) := by decide +kernel
theorem d_O_alike_5 : decode prog_1_method_28_code 5 = .ok (.ifCond .eq 11, 3) := by decide +kernel
theorem d_O_alike_8 : decode prog_1_method_28_code 8 = .ok (.aload_n 0, 1) := by decide +kernel
theorem d_O_alike_9 : decode prog_1_method_28_code 9 = .ok (.iload_n 2, 1) := by decide +kernel
theorem d_O_alike_10 : decode prog_1_method_28_code 10 = .ok (.invokevirtual 166, 3) := by decide +kernel
theorem d_O_alike_13 : decode prog_1_method_28_code 13 = .ok (.ifCond .ne 5, 3) := by decide +kernel
theorem d_O_alike_16 : decode prog_1_method_28_code 16 = .ok (.iconst (-1), 1) := by decide +kernel
theorem d_O_alike_17 : decode prog_1_method_28_code 17 = .ok (.ireturn, 1) := by decide +kernel
theorem d_O_alike_18 : decode prog_1_method_28_code 18 = .ok (.aload_n 0, 1) := by decide +kernel
theorem d_O_alike_19 : decode prog_1_method_28_code 19 = .ok (.getfield 48, 3) := by decide +kernel
theorem d_O_alike_22 : decode prog_1_method_28_code 22 = .ok (.getfield 110, 3) := by decide +kernel
theorem d_O_alike_25 : decode prog_1_method_28_code 25 = .ok (.getfield 169, 3) := by decide +kernel
theorem d_O_alike_28 : decode prog_1_method_28_code 28 = .ok (.iload_n 1, 1) := by decide +kernel
theorem d_O_alike_29 : decode prog_1_method_28_code 29 = .ok (.iaload, 1) := by decide +kernel
theorem d_O_alike_30 : decode prog_1_method_28_code 30 = .ok (.aload_n 0, 1) := by decide +kernel
theorem d_O_alike_31 : decode prog_1_method_28_code 31 = .ok (.getfield 48, 3) := by decide +kernel
theorem d_O_alike_34 : decode prog_1_method_28_code 34 = .ok (.getfield 110, 3) := by decide +kernel
theorem d_O_alike_37 : decode prog_1_method_28_code 37 = .ok (.getfield 169, 3) := by decide +kernel
theorem d_O_alike_40 : decode prog_1_method_28_code 40 = .ok (.iload_n 2, 1) := by decide +kernel
theorem d_O_alike_41 : decode prog_1_method_28_code 41 = .ok (.iaload, 1) := by decide +kernel
theorem d_O_alike_42 : decode prog_1_method_28_code 42 = .ok (.invokestatic 248, 3) := by decide +kernel
theorem d_O_alike_45 : decode prog_1_method_28_code 45 = .ok (.istore_n 3, 1) := by decide +kernel
theorem d_O_alike_46 : decode prog_1_method_28_code 46 = .ok (.aload_n 0, 1) := by decide +kernel
theorem d_O_alike_47 : decode prog_1_method_28_code 47 = .ok (.getfield 48, 3) := by decide +kernel
theorem d_O_alike_50 : decode prog_1_method_28_code 50 = .ok (.getfield 110, 3) := by decide +kernel
theorem d_O_alike_53 : decode prog_1_method_28_code 53 = .ok (.getfield 169, 3) := by decide +kernel
theorem d_O_alike_56 : decode prog_1_method_28_code 56 = .ok (.iload_n 1, 1) := by decide +kernel
theorem d_O_alike_57 : decode prog_1_method_28_code 57 = .ok (.iaload, 1) := by decide +kernel
theorem d_O_alike_58 : decode prog_1_method_28_code 58 = .ok (.aload_n 0, 1) := by decide +kernel
theorem d_O_alike_59 : decode prog_1_method_28_code 59 = .ok (.getfield 48, 3) := by decide +kernel
theorem d_O_alike_62 : decode prog_1_method_28_code 62 = .ok (.getfield 110, 3) := by decide +kernel
theorem d_O_alike_65 : decode prog_1_method_28_code 65 = .ok (.getfield 169, 3) := by decide +kernel
theorem d_O_alike_68 : decode prog_1_method_28_code 68 = .ok (.iload_n 2, 1) := by decide +kernel
theorem d_O_alike_69 : decode prog_1_method_28_code 69 = .ok (.iaload, 1) := by decide +kernel
theorem d_O_alike_70 : decode prog_1_method_28_code 70 = .ok (.iload_n 3, 1) := by decide +kernel
theorem d_O_alike_71 : decode prog_1_method_28_code 71 = .ok (.invokestatic 251, 3) := by decide +kernel
theorem d_O_alike_74 : decode prog_1_method_28_code 74 = .ok (.ireturn, 1) := by decide +kernel
theorem d_K_nearestWay_0 : decode prog_7_method_15_code 0 = .ok (.iconst 0, 1) := by decide +kernel
theorem d_K_nearestWay_1 : decode prog_7_method_15_code 1 = .ok (.istore_n 2, 1) := by decide +kernel
theorem d_K_nearestWay_2 : decode prog_7_method_15_code 2 = .ok (.bipush 21, 2) := by decide +kernel
theorem d_K_nearestWay_4 : decode prog_7_method_15_code 4 = .ok (.istore_n 3, 1) := by decide +kernel
theorem d_K_nearestWay_5 : decode prog_7_method_15_code 5 = .ok (.iconst 0, 1) := by decide +kernel
theorem d_K_nearestWay_6 : decode prog_7_method_15_code 6 = .ok (.istore 4, 2) := by decide +kernel
theorem d_K_nearestWay_8 : decode prog_7_method_15_code 8 = .ok (.iload 4, 2) := by decide +kernel
theorem d_K_nearestWay_10 : decode prog_7_method_15_code 10 = .ok (.bipush 8, 2) := by decide +kernel
theorem d_K_nearestWay_12 : decode prog_7_method_15_code 12 = .ok (.if_icmp .ge 30, 3) := by decide +kernel
theorem d_K_nearestWay_15 : decode prog_7_method_15_code 15 = .ok (.iload_n 0, 1) := by decide +kernel
theorem d_K_nearestWay_16 : decode prog_7_method_15_code 16 = .ok (.iload_n 1, 1) := by decide +kernel
theorem d_K_nearestWay_17 : decode prog_7_method_15_code 17 = .ok (.iload 4, 2) := by decide +kernel
theorem d_K_nearestWay_19 : decode prog_7_method_15_code 19 = .ok (.invokestatic 57, 3) := by decide +kernel
theorem d_K_nearestWay_22 : decode prog_7_method_15_code 22 = .ok (.istore 5, 2) := by decide +kernel
theorem d_K_nearestWay_24 : decode prog_7_method_15_code 24 = .ok (.iload 5, 2) := by decide +kernel
theorem d_K_nearestWay_26 : decode prog_7_method_15_code 26 = .ok (.iload_n 3, 1) := by decide +kernel
theorem d_K_nearestWay_27 : decode prog_7_method_15_code 27 = .ok (.if_icmp .ge 9, 3) := by decide +kernel
theorem d_K_nearestWay_30 : decode prog_7_method_15_code 30 = .ok (.iload 5, 2) := by decide +kernel
theorem d_K_nearestWay_32 : decode prog_7_method_15_code 32 = .ok (.istore_n 3, 1) := by decide +kernel
theorem d_K_nearestWay_33 : decode prog_7_method_15_code 33 = .ok (.iload 4, 2) := by decide +kernel
theorem d_K_nearestWay_35 : decode prog_7_method_15_code 35 = .ok (.istore_n 2, 1) := by decide +kernel
theorem d_K_nearestWay_36 : decode prog_7_method_15_code 36 = .ok (.iinc 4 1, 3) := by decide +kernel
theorem d_K_nearestWay_39 : decode prog_7_method_15_code 39 = .ok (.goto (-31), 3) := by decide +kernel
theorem d_K_nearestWay_42 : decode prog_7_method_15_code 42 = .ok (.iload_n 2, 1) := by decide +kernel
theorem d_K_nearestWay_43 : decode prog_7_method_15_code 43 = .ok (.ireturn, 1) := by decide +kernel
theorem d_K_countApart_0 : decode prog_7_method_14_code 0 = .ok (.iload_n 0, 1) := by decide +kernel
theorem d_K_countApart_1 : decode prog_7_method_14_code 1 = .ok (.iload_n 1, 1) := by decide +kernel
theorem d_K_countApart_2 : decode prog_7_method_14_code 2 = .ok (.iload_n 2, 1) := by decide +kernel
theorem d_K_countApart_3 : decode prog_7_method_14_code 3 = .ok (.invokestatic 54, 3) := by decide +kernel
theorem d_K_countApart_6 : decode prog_7_method_14_code 6 = .ok (.ixor, 1) := by decide +kernel
theorem d_K_countApart_7 : decode prog_7_method_14_code 7 = .ok (.invokestatic 26, 3) := by decide +kernel
theorem d_K_countApart_10 : decode prog_7_method_14_code 10 = .ok (.ireturn, 1) := by decide +kernel
theorem d_O_way_0 : decode prog_1_method_29_code 0 = .ok (.aload_n 0, 1) := by decide +kernel
theorem d_O_way_1 : decode prog_1_method_29_code 1 = .ok (.iload_n 1, 1) := by decide +kernel
theorem d_O_way_2 : decode prog_1_method_29_code 2 = .ok (.invokevirtual 166, 3) := by decide +kernel
theorem d_O_way_5 : decode prog_1_method_29_code 5 = .ok (.ifCond .eq 41, 3) := by decide +kernel
theorem d_O_way_8 : decode prog_1_method_29_code 8 = .ok (.aload_n 0, 1) := by decide +kernel
theorem d_O_way_9 : decode prog_1_method_29_code 9 = .ok (.iload_n 2, 1) := by decide +kernel
theorem d_O_way_10 : decode prog_1_method_29_code 10 = .ok (.invokevirtual 166, 3) := by decide +kernel
theorem d_O_way_13 : decode prog_1_method_29_code 13 = .ok (.ifCond .eq 33, 3) := by decide +kernel
theorem d_O_way_16 : decode prog_1_method_29_code 16 = .ok (.aload_n 0, 1) := by decide +kernel
theorem d_O_way_17 : decode prog_1_method_29_code 17 = .ok (.getfield 48, 3) := by decide +kernel
theorem d_O_way_20 : decode prog_1_method_29_code 20 = .ok (.getfield 110, 3) := by decide +kernel
theorem d_O_way_23 : decode prog_1_method_29_code 23 = .ok (.getfield 169, 3) := by decide +kernel
theorem d_O_way_26 : decode prog_1_method_29_code 26 = .ok (.iload_n 1, 1) := by decide +kernel
theorem d_O_way_27 : decode prog_1_method_29_code 27 = .ok (.iaload, 1) := by decide +kernel
theorem d_O_way_28 : decode prog_1_method_29_code 28 = .ok (.aload_n 0, 1) := by decide +kernel
theorem d_O_way_29 : decode prog_1_method_29_code 29 = .ok (.getfield 48, 3) := by decide +kernel
theorem d_O_way_32 : decode prog_1_method_29_code 32 = .ok (.getfield 110, 3) := by decide +kernel
theorem d_O_way_35 : decode prog_1_method_29_code 35 = .ok (.getfield 169, 3) := by decide +kernel
theorem d_O_way_38 : decode prog_1_method_29_code 38 = .ok (.iload_n 2, 1) := by decide +kernel
theorem d_O_way_39 : decode prog_1_method_29_code 39 = .ok (.iaload, 1) := by decide +kernel
theorem d_O_way_40 : decode prog_1_method_29_code 40 = .ok (.invokestatic 248, 3) := by decide +kernel
theorem d_O_way_43 : decode prog_1_method_29_code 43 = .ok (.goto 4, 3) := by decide +kernel
theorem d_O_way_46 : decode prog_1_method_29_code 46 = .ok (.iconst (-1), 1) := by decide +kernel
theorem d_O_way_47 : decode prog_1_method_29_code 47 = .ok (.ireturn, 1) := by decide +kernel
theorem d_O_made_0 : decode prog_1_method_30_code 0 = .ok (.aload_n 0, 1) := by decide +kernel
theorem d_O_made_1 : decode prog_1_method_30_code 1 = .ok (.iload_n 1, 1) := by decide +kernel
theorem d_O_made_2 : decode prog_1_method_30_code 2 = .ok (.invokevirtual 166, 3) := by decide +kernel
theorem d_O_made_5 : decode prog_1_method_30_code 5 = .ok (.ifCond .eq 11, 3) := by decide +kernel
theorem d_O_made_8 : decode prog_1_method_30_code 8 = .ok (.aload_n 0, 1) := by decide +kernel
theorem d_O_made_9 : decode prog_1_method_30_code 9 = .ok (.iload_n 2, 1) := by decide +kernel
theorem d_O_made_10 : decode prog_1_method_30_code 10 = .ok (.invokevirtual 166, 3) := by decide +kernel
theorem d_O_made_13 : decode prog_1_method_30_code 13 = .ok (.ifCond .ne 5, 3) := by decide +kernel
theorem d_O_made_16 : decode prog_1_method_30_code 16 = .ok (.iconst (-1), 1) := by decide +kernel
theorem d_O_made_17 : decode prog_1_method_30_code 17 = .ok (.ireturn, 1) := by decide +kernel
theorem d_O_made_18 : decode prog_1_method_30_code 18 = .ok (.aload_n 0, 1) := by decide +kernel
theorem d_O_made_19 : decode prog_1_method_30_code 19 = .ok (.getfield 48, 3) := by decide +kernel
theorem d_O_made_22 : decode prog_1_method_30_code 22 = .ok (.getfield 110, 3) := by decide +kernel
theorem d_O_made_25 : decode prog_1_method_30_code 25 = .ok (.getfield 169, 3) := by decide +kernel
theorem d_O_made_28 : decode prog_1_method_30_code 28 = .ok (.iload_n 1, 1) := by decide +kernel
theorem d_O_made_29 : decode prog_1_method_30_code 29 = .ok (.iaload, 1) := by decide +kernel
theorem d_O_made_30 : decode prog_1_method_30_code 30 = .ok (.istore 4, 2) := by decide +kernel
theorem d_O_made_32 : decode prog_1_method_30_code 32 = .ok (.aload_n 0, 1) := by decide +kernel
theorem d_O_made_33 : decode prog_1_method_30_code 33 = .ok (.getfield 48, 3) := by decide +kernel
theorem d_O_made_36 : decode prog_1_method_30_code 36 = .ok (.getfield 110, 3) := by decide +kernel
theorem d_O_made_39 : decode prog_1_method_30_code 39 = .ok (.getfield 169, 3) := by decide +kernel
theorem d_O_made_42 : decode prog_1_method_30_code 42 = .ok (.iload_n 2, 1) := by decide +kernel
theorem d_O_made_43 : decode prog_1_method_30_code 43 = .ok (.iaload, 1) := by decide +kernel
theorem d_O_made_44 : decode prog_1_method_30_code 44 = .ok (.istore 5, 2) := by decide +kernel
theorem d_O_made_46 : decode prog_1_method_30_code 46 = .ok (.iload 4, 2) := by decide +kernel
theorem d_O_made_48 : decode prog_1_method_30_code 48 = .ok (.iload 5, 2) := by decide +kernel
theorem d_O_made_50 : decode prog_1_method_30_code 50 = .ok (.invokestatic 255, 3) := by decide +kernel
theorem d_O_made_53 : decode prog_1_method_30_code 53 = .ok (.istore 6, 2) := by decide +kernel
theorem d_O_made_55 : decode prog_1_method_30_code 55 = .ok (.iload 6, 2) := by decide +kernel
theorem d_O_made_57 : decode prog_1_method_30_code 57 = .ok (.iconst (-1), 1) := by decide +kernel
theorem d_O_made_58 : decode prog_1_method_30_code 58 = .ok (.if_icmp .eq 7, 3) := by decide +kernel
theorem d_O_made_61 : decode prog_1_method_30_code 61 = .ok (.iload_n 3, 1) := by decide +kernel
theorem d_O_made_62 : decode prog_1_method_30_code 62 = .ok (.ifCond .eq 6, 3) := by decide +kernel
theorem d_O_made_65 : decode prog_1_method_30_code 65 = .ok (.iload 6, 2) := by decide +kernel
theorem d_O_made_67 : decode prog_1_method_30_code 67 = .ok (.ireturn, 1) := by decide +kernel
theorem d_O_made_68 : decode prog_1_method_30_code 68 = .ok (.iload 5, 2) := by decide +kernel
theorem d_O_made_70 : decode prog_1_method_30_code 70 = .ok (.invokestatic 175, 3) := by decide +kernel
theorem d_O_made_73 : decode prog_1_method_30_code 73 = .ok (.iload 4, 2) := by decide +kernel
theorem d_O_made_75 : decode prog_1_method_30_code 75 = .ok (.invokestatic 175, 3) := by decide +kernel
theorem d_O_made_78 : decode prog_1_method_30_code 78 = .ok (.isub, 1) := by decide +kernel
theorem d_O_made_79 : decode prog_1_method_30_code 79 = .ok (.ireturn, 1) := by decide +kernel
theorem d_K_wayInto_0 : decode prog_7_method_16_code 0 = .ok (.iconst 0, 1) := by decide +kernel
theorem d_K_wayInto_1 : decode prog_7_method_16_code 1 = .ok (.istore_n 2, 1) := by decide +kernel
theorem d_K_wayInto_2 : decode prog_7_method_16_code 2 = .ok (.iload_n 2, 1) := by decide +kernel
theorem d_K_wayInto_3 : decode prog_7_method_16_code 3 = .ok (.bipush 8, 2) := by decide +kernel
theorem d_K_wayInto_5 : decode prog_7_method_16_code 5 = .ok (.if_icmp .ge 23, 3) := by decide +kernel
theorem d_K_wayInto_8 : decode prog_7_method_16_code 8 = .ok (.iload_n 0, 1) := by decide +kernel
theorem d_K_wayInto_9 : decode prog_7_method_16_code 9 = .ok (.iload_n 1, 1) := by decide +kernel
theorem d_K_wayInto_10 : decode prog_7_method_16_code 10 = .ok (.iload_n 2, 1) := by decide +kernel
theorem d_K_wayInto_11 : decode prog_7_method_16_code 11 = .ok (.invokestatic 54, 3) := by decide +kernel
theorem d_K_wayInto_14 : decode prog_7_method_16_code 14 = .ok (.iconst (-1), 1) := by decide +kernel
theorem d_K_wayInto_15 : decode prog_7_method_16_code 15 = .ok (.ixor, 1) := by decide +kernel
theorem d_K_wayInto_16 : decode prog_7_method_16_code 16 = .ok (.iand, 1) := by decide +kernel
theorem d_K_wayInto_17 : decode prog_7_method_16_code 17 = .ok (.ifCond .ne 5, 3) := by decide +kernel
theorem d_K_wayInto_20 : decode prog_7_method_16_code 20 = .ok (.iload_n 2, 1) := by decide +kernel
theorem d_K_wayInto_21 : decode prog_7_method_16_code 21 = .ok (.ireturn, 1) := by decide +kernel
theorem d_K_wayInto_22 : decode prog_7_method_16_code 22 = .ok (.iinc 2 1, 3) := by decide +kernel
theorem d_K_wayInto_25 : decode prog_7_method_16_code 25 = .ok (.goto (-23), 3) := by decide +kernel
theorem d_K_wayInto_28 : decode prog_7_method_16_code 28 = .ok (.iconst (-1), 1) := by decide +kernel
theorem d_K_wayInto_29 : decode prog_7_method_16_code 29 = .ok (.ireturn, 1) := by decide +kernel
theorem d_O_clash_0 : decode prog_1_method_31_code 0 = .ok (.iload_n 1, 1) := by decide +kernel
theorem d_O_clash_1 : decode prog_1_method_31_code 1 = .ok (.ifCond .lt 9, 3) := by decide +kernel
theorem d_O_clash_4 : decode prog_1_method_31_code 4 = .ok (.iload_n 1, 1) := by decide +kernel
theorem d_O_clash_5 : decode prog_1_method_31_code 5 = .ok (.bipush 20, 2) := by decide +kernel
theorem d_O_clash_7 : decode prog_1_method_31_code 7 = .ok (.if_icmp .le 5, 3) := by decide +kernel
theorem d_O_clash_10 : decode prog_1_method_31_code 10 = .ok (.iconst (-1), 1) := by decide +kernel
theorem d_O_clash_11 : decode prog_1_method_31_code 11 = .ok (.ireturn, 1) := by decide +kernel
theorem d_O_clash_12 : decode prog_1_method_31_code 12 = .ok (.iconst 0, 1) := by decide +kernel
theorem d_O_clash_13 : decode prog_1_method_31_code 13 = .ok (.istore_n 3, 1) := by decide +kernel
theorem d_O_clash_14 : decode prog_1_method_31_code 14 = .ok (.iload_n 3, 1) := by decide +kernel
theorem d_O_clash_15 : decode prog_1_method_31_code 15 = .ok (.aload_n 0, 1) := by decide +kernel
theorem d_O_clash_16 : decode prog_1_method_31_code 16 = .ok (.getfield 48, 3) := by decide +kernel
theorem d_O_clash_19 : decode prog_1_method_31_code 19 = .ok (.getfield 110, 3) := by decide +kernel
theorem d_O_clash_22 : decode prog_1_method_31_code 22 = .ok (.getfield 258, 3) := by decide +kernel
theorem d_O_clash_25 : decode prog_1_method_31_code 25 = .ok (.if_icmp .ge 72, 3) := by decide +kernel
theorem d_O_clash_28 : decode prog_1_method_31_code 28 = .ok (.iload_n 3, 1) := by decide +kernel
theorem d_O_clash_29 : decode prog_1_method_31_code 29 = .ok (.iconst 1, 1) := by decide +kernel
theorem d_O_clash_30 : decode prog_1_method_31_code 30 = .ok (.iadd, 1) := by decide +kernel
theorem d_O_clash_31 : decode prog_1_method_31_code 31 = .ok (.istore 4, 2) := by decide +kernel
theorem d_O_clash_33 : decode prog_1_method_31_code 33 = .ok (.iload 4, 2) := by decide +kernel
theorem d_O_clash_35 : decode prog_1_method_31_code 35 = .ok (.aload_n 0, 1) := by decide +kernel
theorem d_O_clash_36 : decode prog_1_method_31_code 36 = .ok (.getfield 48, 3) := by decide +kernel
theorem d_O_clash_39 : decode prog_1_method_31_code 39 = .ok (.getfield 110, 3) := by decide +kernel
theorem d_O_clash_42 : decode prog_1_method_31_code 42 = .ok (.getfield 258, 3) := by decide +kernel
theorem d_O_clash_45 : decode prog_1_method_31_code 45 = .ok (.if_icmp .ge 46, 3) := by decide +kernel
theorem d_O_clash_48 : decode prog_1_method_31_code 48 = .ok (.aload_n 0, 1) := by decide +kernel
theorem d_O_clash_49 : decode prog_1_method_31_code 49 = .ok (.getfield 48, 3) := by decide +kernel
theorem d_O_clash_52 : decode prog_1_method_31_code 52 = .ok (.getfield 172, 3) := by decide +kernel
theorem d_O_clash_55 : decode prog_1_method_31_code 55 = .ok (.iload_n 3, 1) := by decide +kernel
theorem d_O_clash_56 : decode prog_1_method_31_code 56 = .ok (.iaload, 1) := by decide +kernel
theorem d_O_clash_57 : decode prog_1_method_31_code 57 = .ok (.aload_n 0, 1) := by decide +kernel
theorem d_O_clash_58 : decode prog_1_method_31_code 58 = .ok (.getfield 48, 3) := by decide +kernel
theorem d_O_clash_61 : decode prog_1_method_31_code 61 = .ok (.getfield 172, 3) := by decide +kernel
theorem d_O_clash_64 : decode prog_1_method_31_code 64 = .ok (.iload 4, 2) := by decide +kernel
theorem d_O_clash_66 : decode prog_1_method_31_code 66 = .ok (.iaload, 1) := by decide +kernel
theorem d_O_clash_67 : decode prog_1_method_31_code 67 = .ok (.iload_n 1, 1) := by decide +kernel
theorem d_O_clash_68 : decode prog_1_method_31_code 68 = .ok (.invokestatic 261, 3) := by decide +kernel
theorem d_O_clash_71 : decode prog_1_method_31_code 71 = .ok (.ifCond .eq 14, 3) := by decide +kernel
theorem d_O_clash_74 : decode prog_1_method_31_code 74 = .ok (.iload_n 2, 1) := by decide +kernel
theorem d_O_clash_75 : decode prog_1_method_31_code 75 = .ok (.ifCond .eq 8, 3) := by decide +kernel
theorem d_O_clash_78 : decode prog_1_method_31_code 78 = .ok (.iload 4, 2) := by decide +kernel
theorem d_O_clash_80 : decode prog_1_method_31_code 80 = .ok (.goto 4, 3) := by decide +kernel
theorem d_O_clash_83 : decode prog_1_method_31_code 83 = .ok (.iload_n 3, 1) := by decide +kernel
theorem d_O_clash_84 : decode prog_1_method_31_code 84 = .ok (.ireturn, 1) := by decide +kernel
theorem d_O_clash_85 : decode prog_1_method_31_code 85 = .ok (.iinc 4 1, 3) := by decide +kernel
theorem d_O_clash_88 : decode prog_1_method_31_code 88 = .ok (.goto (-55), 3) := by decide +kernel
theorem d_O_clash_91 : decode prog_1_method_31_code 91 = .ok (.iinc 3 1, 3) := by decide +kernel
theorem d_O_clash_94 : decode prog_1_method_31_code 94 = .ok (.goto (-80), 3) := by decide +kernel
theorem d_O_clash_97 : decode prog_1_method_31_code 97 = .ok (.iconst (-1), 1) := by decide +kernel
theorem d_O_clash_98 : decode prog_1_method_31_code 98 = .ok (.ireturn, 1) := by decide +kernel
theorem d_K_isNear_0 : decode prog_7_method_18_code 0 = .ok (.iload_n 0, 1) := by decide +kernel
theorem d_K_isNear_1 : decode prog_7_method_18_code 1 = .ok (.iload_n 1, 1) := by decide +kernel
theorem d_K_isNear_2 : decode prog_7_method_18_code 2 = .ok (.iload_n 2, 1) := by decide +kernel
theorem d_K_isNear_3 : decode prog_7_method_18_code 3 = .ok (.invokestatic 64, 3) := by decide +kernel
theorem d_K_isNear_6 : decode prog_7_method_18_code 6 = .ok (.ifCond .ne 12, 3) := by decide +kernel
theorem d_K_isNear_9 : decode prog_7_method_18_code 9 = .ok (.iload_n 1, 1) := by decide +kernel
theorem d_K_isNear_10 : decode prog_7_method_18_code 10 = .ok (.iload_n 0, 1) := by decide +kernel
theorem d_K_isNear_11 : decode prog_7_method_18_code 11 = .ok (.iload_n 2, 1) := by decide +kernel
theorem d_K_isNear_12 : decode prog_7_method_18_code 12 = .ok (.invokestatic 64, 3) := by decide +kernel
theorem d_K_isNear_15 : decode prog_7_method_18_code 15 = .ok (.ifCond .eq 7, 3) := by decide +kernel
theorem d_K_isNear_18 : decode prog_7_method_18_code 18 = .ok (.iconst 1, 1) := by decide +kernel
theorem d_K_isNear_19 : decode prog_7_method_18_code 19 = .ok (.goto 4, 3) := by decide +kernel
theorem d_K_isNear_22 : decode prog_7_method_18_code 22 = .ok (.iconst 0, 1) := by decide +kernel
theorem d_K_isNear_23 : decode prog_7_method_18_code 23 = .ok (.ireturn, 1) := by decide +kernel
theorem d_K_isMadeOf_0 : decode prog_7_method_17_code 0 = .ok (.iload_n 1, 1) := by decide +kernel
theorem d_K_isMadeOf_1 : decode prog_7_method_17_code 1 = .ok (.invokestatic 26, 3) := by decide +kernel
theorem d_K_isMadeOf_4 : decode prog_7_method_17_code 4 = .ok (.iload_n 0, 1) := by decide +kernel
theorem d_K_isMadeOf_5 : decode prog_7_method_17_code 5 = .ok (.invokestatic 26, 3) := by decide +kernel
theorem d_K_isMadeOf_8 : decode prog_7_method_17_code 8 = .ok (.isub, 1) := by decide +kernel
theorem d_K_isMadeOf_9 : decode prog_7_method_17_code 9 = .ok (.istore_n 3, 1) := by decide +kernel
theorem d_K_isMadeOf_10 : decode prog_7_method_17_code 10 = .ok (.iload_n 3, 1) := by decide +kernel
theorem d_K_isMadeOf_11 : decode prog_7_method_17_code 11 = .ok (.ifCond .lt 21, 3) := by decide +kernel
theorem d_K_isMadeOf_14 : decode prog_7_method_17_code 14 = .ok (.iload_n 3, 1) := by decide +kernel
theorem d_K_isMadeOf_15 : decode prog_7_method_17_code 15 = .ok (.iload_n 2, 1) := by decide +kernel
theorem d_K_isMadeOf_16 : decode prog_7_method_17_code 16 = .ok (.if_icmp .gt 16, 3) := by decide +kernel
theorem d_K_isMadeOf_19 : decode prog_7_method_17_code 19 = .ok (.iload_n 0, 1) := by decide +kernel
theorem d_K_isMadeOf_20 : decode prog_7_method_17_code 20 = .ok (.iload_n 1, 1) := by decide +kernel
theorem d_K_isMadeOf_21 : decode prog_7_method_17_code 21 = .ok (.invokestatic 61, 3) := by decide +kernel
theorem d_K_isMadeOf_24 : decode prog_7_method_17_code 24 = .ok (.iconst (-1), 1) := by decide +kernel
theorem d_K_isMadeOf_25 : decode prog_7_method_17_code 25 = .ok (.if_icmp .eq 7, 3) := by decide +kernel
theorem d_K_isMadeOf_28 : decode prog_7_method_17_code 28 = .ok (.iconst 1, 1) := by decide +kernel
theorem d_K_isMadeOf_29 : decode prog_7_method_17_code 29 = .ok (.goto 4, 3) := by decide +kernel
theorem d_K_isMadeOf_32 : decode prog_7_method_17_code 32 = .ok (.iconst 0, 1) := by decide +kernel
theorem d_K_isMadeOf_33 : decode prog_7_method_17_code 33 = .ok (.ireturn, 1) := by decide +kernel
theorem d_O_chain_0 : decode prog_1_method_32_code 0 = .ok (.aload_n 0, 1) := by decide +kernel
theorem d_O_chain_1 : decode prog_1_method_32_code 1 = .ok (.iload_n 1, 1) := by decide +kernel
theorem d_O_chain_2 : decode prog_1_method_32_code 2 = .ok (.invokevirtual 166, 3) := by decide +kernel
theorem d_O_chain_5 : decode prog_1_method_32_code 5 = .ok (.ifCond .eq 21, 3) := by decide +kernel
theorem d_O_chain_8 : decode prog_1_method_32_code 8 = .ok (.aload_n 0, 1) := by decide +kernel
theorem d_O_chain_9 : decode prog_1_method_32_code 9 = .ok (.iload_n 2, 1) := by decide +kernel
theorem d_O_chain_10 : decode prog_1_method_32_code 10 = .ok (.invokevirtual 166, 3) := by decide +kernel
theorem d_O_chain_13 : decode prog_1_method_32_code 13 = .ok (.ifCond .eq 13, 3) := by decide +kernel
theorem d_O_chain_16 : decode prog_1_method_32_code 16 = .ok (.iload_n 3, 1) := by decide +kernel
theorem d_O_chain_17 : decode prog_1_method_32_code 17 = .ok (.ifCond .lt 9, 3) := by decide +kernel
theorem d_O_chain_20 : decode prog_1_method_32_code 20 = .ok (.iload_n 3, 1) := by decide +kernel
theorem d_O_chain_21 : decode prog_1_method_32_code 21 = .ok (.bipush 20, 2) := by decide +kernel
theorem d_O_chain_23 : decode prog_1_method_32_code 23 = .ok (.if_icmp .le 5, 3) := by decide +kernel
theorem d_O_chain_26 : decode prog_1_method_32_code 26 = .ok (.iconst (-1), 1) := by decide +kernel
theorem d_O_chain_27 : decode prog_1_method_32_code 27 = .ok (.ireturn, 1) := by decide +kernel
theorem d_O_chain_28 : decode prog_1_method_32_code 28 = .ok (.iconst 1, 1) := by decide +kernel
theorem d_O_chain_29 : decode prog_1_method_32_code 29 = .ok (.iload_n 1, 1) := by decide +kernel
theorem d_O_chain_30 : decode prog_1_method_32_code 30 = .ok (.ishl, 1) := by decide +kernel
theorem d_O_chain_31 : decode prog_1_method_32_code 31 = .ok (.istore 4, 2) := by decide +kernel
theorem d_O_chain_33 : decode prog_1_method_32_code 33 = .ok (.iconst 0, 1) := by decide +kernel
theorem d_O_chain_34 : decode prog_1_method_32_code 34 = .ok (.istore 5, 2) := by decide +kernel
theorem d_O_chain_36 : decode prog_1_method_32_code 36 = .ok (.iload 5, 2) := by decide +kernel
theorem d_O_chain_38 : decode prog_1_method_32_code 38 = .ok (.bipush 8, 2) := by decide +kernel
theorem d_O_chain_40 : decode prog_1_method_32_code 40 = .ok (.if_icmp .ge 34, 3) := by decide +kernel
theorem d_O_chain_43 : decode prog_1_method_32_code 43 = .ok (.iload 4, 2) := by decide +kernel
theorem d_O_chain_45 : decode prog_1_method_32_code 45 = .ok (.iload_n 2, 1) := by decide +kernel
theorem d_O_chain_46 : decode prog_1_method_32_code 46 = .ok (.ishr, 1) := by decide +kernel
theorem d_O_chain_47 : decode prog_1_method_32_code 47 = .ok (.iconst 1, 1) := by decide +kernel
theorem d_O_chain_48 : decode prog_1_method_32_code 48 = .ok (.iand, 1) := by decide +kernel
theorem d_O_chain_49 : decode prog_1_method_32_code 49 = .ok (.iconst 1, 1) := by decide +kernel
theorem d_O_chain_50 : decode prog_1_method_32_code 50 = .ok (.if_icmp .ne 6, 3) := by decide +kernel
theorem d_O_chain_53 : decode prog_1_method_32_code 53 = .ok (.iload 5, 2) := by decide +kernel
theorem d_O_chain_55 : decode prog_1_method_32_code 55 = .ok (.ireturn, 1) := by decide +kernel
theorem d_O_chain_56 : decode prog_1_method_32_code 56 = .ok (.iload 4, 2) := by decide +kernel
theorem d_O_chain_58 : decode prog_1_method_32_code 58 = .ok (.aload_n 0, 1) := by decide +kernel
theorem d_O_chain_59 : decode prog_1_method_32_code 59 = .ok (.iload 4, 2) := by decide +kernel
theorem d_O_chain_61 : decode prog_1_method_32_code 61 = .ok (.iload_n 3, 1) := by decide +kernel
theorem d_O_chain_62 : decode prog_1_method_32_code 62 = .ok (.invokevirtual 264, 3) := by decide +kernel
theorem d_O_chain_65 : decode prog_1_method_32_code 65 = .ok (.ior, 1) := by decide +kernel
theorem d_O_chain_66 : decode prog_1_method_32_code 66 = .ok (.istore 4, 2) := by decide +kernel
theorem d_O_chain_68 : decode prog_1_method_32_code 68 = .ok (.iinc 5 1, 3) := by decide +kernel
theorem d_O_chain_71 : decode prog_1_method_32_code 71 = .ok (.goto (-35), 3) := by decide +kernel
theorem d_O_chain_74 : decode prog_1_method_32_code 74 = .ok (.iconst (-1), 1) := by decide +kernel
theorem d_O_chain_75 : decode prog_1_method_32_code 75 = .ok (.ireturn, 1) := by decide +kernel
theorem d_O_forgedFrom_0 : decode prog_1_method_63_code 0 = .ok (.iconst 0, 1) := by decide +kernel
theorem d_O_forgedFrom_1 : decode prog_1_method_63_code 1 = .ok (.istore_n 3, 1) := by decide +kernel
theorem d_O_forgedFrom_2 : decode prog_1_method_63_code 2 = .ok (.iconst 0, 1) := by decide +kernel
theorem d_O_forgedFrom_3 : decode prog_1_method_63_code 3 = .ok (.istore 4, 2) := by decide +kernel
theorem d_O_forgedFrom_5 : decode prog_1_method_63_code 5 = .ok (.iload 4, 2) := by decide +kernel
theorem d_O_forgedFrom_7 : decode prog_1_method_63_code 7 = .ok (.aload_n 0, 1) := by decide +kernel
theorem d_O_forgedFrom_8 : decode prog_1_method_63_code 8 = .ok (.getfield 48, 3) := by decide +kernel
theorem d_O_forgedFrom_11 : decode prog_1_method_63_code 11 = .ok (.getfield 110, 3) := by decide +kernel
theorem d_O_forgedFrom_14 : decode prog_1_method_63_code 14 = .ok (.getfield 258, 3) := by decide +kernel
theorem d_O_forgedFrom_17 : decode prog_1_method_63_code 17 = .ok (.if_icmp .ge 104, 3) := by decide +kernel
theorem d_O_forgedFrom_20 : decode prog_1_method_63_code 20 = .ok (.iconst 0, 1) := by decide +kernel
theorem d_O_forgedFrom_21 : decode prog_1_method_63_code 21 = .ok (.istore 5, 2) := by decide +kernel
theorem d_O_forgedFrom_23 : decode prog_1_method_63_code 23 = .ok (.iload 5, 2) := by decide +kernel
theorem d_O_forgedFrom_25 : decode prog_1_method_63_code 25 = .ok (.aload_n 0, 1) := by decide +kernel
theorem d_O_forgedFrom_26 : decode prog_1_method_63_code 26 = .ok (.getfield 48, 3) := by decide +kernel
theorem d_O_forgedFrom_29 : decode prog_1_method_63_code 29 = .ok (.getfield 110, 3) := by decide +kernel
theorem d_O_forgedFrom_32 : decode prog_1_method_63_code 32 = .ok (.getfield 258, 3) := by decide +kernel
theorem d_O_forgedFrom_35 : decode prog_1_method_63_code 35 = .ok (.if_icmp .ge 80, 3) := by decide +kernel
theorem d_O_forgedFrom_38 : decode prog_1_method_63_code 38 = .ok (.iload_n 1, 1) := by decide +kernel
theorem d_O_forgedFrom_39 : decode prog_1_method_63_code 39 = .ok (.iload 4, 2) := by decide +kernel
theorem d_O_forgedFrom_41 : decode prog_1_method_63_code 41 = .ok (.ishr, 1) := by decide +kernel
theorem d_O_forgedFrom_42 : decode prog_1_method_63_code 42 = .ok (.iconst 1, 1) := by decide +kernel
theorem d_O_forgedFrom_43 : decode prog_1_method_63_code 43 = .ok (.iand, 1) := by decide +kernel
theorem d_O_forgedFrom_44 : decode prog_1_method_63_code 44 = .ok (.iconst 1, 1) := by decide +kernel
theorem d_O_forgedFrom_45 : decode prog_1_method_63_code 45 = .ok (.if_icmp .ne 16, 3) := by decide +kernel
theorem d_O_forgedFrom_48 : decode prog_1_method_63_code 48 = .ok (.iload_n 1, 1) := by decide +kernel
theorem d_O_forgedFrom_49 : decode prog_1_method_63_code 49 = .ok (.iload 5, 2) := by decide +kernel
theorem d_O_forgedFrom_51 : decode prog_1_method_63_code 51 = .ok (.ishr, 1) := by decide +kernel
theorem d_O_forgedFrom_52 : decode prog_1_method_63_code 52 = .ok (.iconst 1, 1) := by decide +kernel
theorem d_O_forgedFrom_53 : decode prog_1_method_63_code 53 = .ok (.iand, 1) := by decide +kernel
theorem d_O_forgedFrom_54 : decode prog_1_method_63_code 54 = .ok (.ifCond .ne 7, 3) := by decide +kernel
theorem d_O_forgedFrom_57 : decode prog_1_method_63_code 57 = .ok (.iconst 1, 1) := by decide +kernel
theorem d_O_forgedFrom_58 : decode prog_1_method_63_code 58 = .ok (.goto 4, 3) := by decide +kernel
theorem d_O_forgedFrom_61 : decode prog_1_method_63_code 61 = .ok (.iconst 0, 1) := by decide +kernel
theorem d_O_forgedFrom_62 : decode prog_1_method_63_code 62 = .ok (.istore 6, 2) := by decide +kernel
theorem d_O_forgedFrom_64 : decode prog_1_method_63_code 64 = .ok (.iload 6, 2) := by decide +kernel
theorem d_O_forgedFrom_66 : decode prog_1_method_63_code 66 = .ok (.ifCond .eq 43, 3) := by decide +kernel
theorem d_O_forgedFrom_69 : decode prog_1_method_63_code 69 = .ok (.aload_n 0, 1) := by decide +kernel
theorem d_O_forgedFrom_70 : decode prog_1_method_63_code 70 = .ok (.getfield 48, 3) := by decide +kernel
theorem d_O_forgedFrom_73 : decode prog_1_method_63_code 73 = .ok (.getfield 110, 3) := by decide +kernel
theorem d_O_forgedFrom_76 : decode prog_1_method_63_code 76 = .ok (.getfield 169, 3) := by decide +kernel
theorem d_O_forgedFrom_79 : decode prog_1_method_63_code 79 = .ok (.iload 4, 2) := by decide +kernel
theorem d_O_forgedFrom_81 : decode prog_1_method_63_code 81 = .ok (.iaload, 1) := by decide +kernel
theorem d_O_forgedFrom_82 : decode prog_1_method_63_code 82 = .ok (.aload_n 0, 1) := by decide +kernel
theorem d_O_forgedFrom_83 : decode prog_1_method_63_code 83 = .ok (.getfield 48, 3) := by decide +kernel
theorem d_O_forgedFrom_86 : decode prog_1_method_63_code 86 = .ok (.getfield 110, 3) := by decide +kernel
theorem d_O_forgedFrom_89 : decode prog_1_method_63_code 89 = .ok (.getfield 169, 3) := by decide +kernel
theorem d_O_forgedFrom_92 : decode prog_1_method_63_code 92 = .ok (.iload 5, 2) := by decide +kernel
theorem d_O_forgedFrom_94 : decode prog_1_method_63_code 94 = .ok (.iaload, 1) := by decide +kernel
theorem d_O_forgedFrom_95 : decode prog_1_method_63_code 95 = .ok (.iload_n 2, 1) := by decide +kernel
theorem d_O_forgedFrom_96 : decode prog_1_method_63_code 96 = .ok (.invokestatic 356, 3) := by decide +kernel
theorem d_O_forgedFrom_99 : decode prog_1_method_63_code 99 = .ok (.ifCond .eq 10, 3) := by decide +kernel
theorem d_O_forgedFrom_102 : decode prog_1_method_63_code 102 = .ok (.iload_n 3, 1) := by decide +kernel
theorem d_O_forgedFrom_103 : decode prog_1_method_63_code 103 = .ok (.iconst 1, 1) := by decide +kernel
theorem d_O_forgedFrom_104 : decode prog_1_method_63_code 104 = .ok (.iload 5, 2) := by decide +kernel
theorem d_O_forgedFrom_106 : decode prog_1_method_63_code 106 = .ok (.ishl, 1) := by decide +kernel
theorem d_O_forgedFrom_107 : decode prog_1_method_63_code 107 = .ok (.ior, 1) := by decide +kernel
theorem d_O_forgedFrom_108 : decode prog_1_method_63_code 108 = .ok (.istore_n 3, 1) := by decide +kernel
theorem d_O_forgedFrom_109 : decode prog_1_method_63_code 109 = .ok (.iinc 5 1, 3) := by decide +kernel
theorem d_O_forgedFrom_112 : decode prog_1_method_63_code 112 = .ok (.goto (-89), 3) := by decide +kernel
theorem d_O_forgedFrom_115 : decode prog_1_method_63_code 115 = .ok (.iinc 4 1, 3) := by decide +kernel
theorem d_O_forgedFrom_118 : decode prog_1_method_63_code 118 = .ok (.goto (-113), 3) := by decide +kernel
theorem d_O_forgedFrom_121 : decode prog_1_method_63_code 121 = .ok (.iload_n 3, 1) := by decide +kernel
theorem d_O_forgedFrom_122 : decode prog_1_method_63_code 122 = .ok (.ireturn, 1) := by decide +kernel
theorem d_O_free_0 : decode prog_1_method_33_code 0 = .ok (.iload_n 1, 1) := by decide +kernel
theorem d_O_free_1 : decode prog_1_method_33_code 1 = .ok (.ifCond .lt 18, 3) := by decide +kernel
theorem d_O_free_4 : decode prog_1_method_33_code 4 = .ok (.iload_n 1, 1) := by decide +kernel
theorem d_O_free_5 : decode prog_1_method_33_code 5 = .ok (.iconst 4, 1) := by decide +kernel
theorem d_O_free_6 : decode prog_1_method_33_code 6 = .ok (.if_icmp .gt 13, 3) := by decide +kernel
theorem d_O_free_9 : decode prog_1_method_33_code 9 = .ok (.iload_n 2, 1) := by decide +kernel
theorem d_O_free_10 : decode prog_1_method_33_code 10 = .ok (.ifCond .lt 9, 3) := by decide +kernel
theorem d_O_free_13 : decode prog_1_method_33_code 13 = .ok (.iload_n 2, 1) := by decide +kernel
theorem d_O_free_14 : decode prog_1_method_33_code 14 = .ok (.bipush 20, 2) := by decide +kernel
theorem d_O_free_16 : decode prog_1_method_33_code 16 = .ok (.if_icmp .le 5, 3) := by decide +kernel
theorem d_O_free_19 : decode prog_1_method_33_code 19 = .ok (.iconst (-1), 1) := by decide +kernel
theorem d_O_free_20 : decode prog_1_method_33_code 20 = .ok (.ireturn, 1) := by decide +kernel
theorem d_O_free_21 : decode prog_1_method_33_code 21 = .ok (.aload_n 0, 1) := by decide +kernel
theorem d_O_free_22 : decode prog_1_method_33_code 22 = .ok (.aload_n 0, 1) := by decide +kernel
theorem d_O_free_23 : decode prog_1_method_33_code 23 = .ok (.getfield 48, 3) := by decide +kernel
theorem d_O_free_26 : decode prog_1_method_33_code 26 = .ok (.getfield 172, 3) := by decide +kernel
theorem d_O_free_29 : decode prog_1_method_33_code 29 = .ok (.invokevirtual 267, 3) := by decide +kernel
theorem d_O_free_32 : decode prog_1_method_33_code 32 = .ok (.istore_n 3, 1) := by decide +kernel
theorem d_O_free_33 : decode prog_1_method_33_code 33 = .ok (.iload_n 1, 1) := by decide +kernel
theorem d_O_free_34 : decode prog_1_method_33_code 34 = .ok (.invokestatic 271, 3) := by decide +kernel
theorem d_O_free_37 : decode prog_1_method_33_code 37 = .ok (.istore 4, 2) := by decide +kernel
theorem d_O_free_39 : decode prog_1_method_33_code 39 = .ok (.iload_n 1, 1) := by decide +kernel
theorem d_O_free_40 : decode prog_1_method_33_code 40 = .ok (.invokestatic 274, 3) := by decide +kernel
theorem d_O_free_43 : decode prog_1_method_33_code 43 = .ok (.istore 5, 2) := by decide +kernel
theorem d_O_free_45 : decode prog_1_method_33_code 45 = .ok (.iconst 0, 1) := by decide +kernel
theorem d_O_free_46 : decode prog_1_method_33_code 46 = .ok (.istore 6, 2) := by decide +kernel
theorem d_O_free_48 : decode prog_1_method_33_code 48 = .ok (.iload 6, 2) := by decide +kernel
theorem d_O_free_50 : decode prog_1_method_33_code 50 = .ok (.iload 4, 2) := by decide +kernel
theorem d_O_free_52 : decode prog_1_method_33_code 52 = .ok (.if_icmp .ge 30, 3) := by decide +kernel
theorem d_O_free_55 : decode prog_1_method_33_code 55 = .ok (.aload_n 0, 1) := by decide +kernel
theorem d_O_free_56 : decode prog_1_method_33_code 56 = .ok (.iload_n 3, 1) := by decide +kernel
theorem d_O_free_57 : decode prog_1_method_33_code 57 = .ok (.iload 5, 2) := by decide +kernel
theorem d_O_free_59 : decode prog_1_method_33_code 59 = .ok (.iload_n 2, 1) := by decide +kernel
theorem d_O_free_60 : decode prog_1_method_33_code 60 = .ok (.invokevirtual 277, 3) := by decide +kernel
theorem d_O_free_63 : decode prog_1_method_33_code 63 = .ok (.ifCond .eq 6, 3) := by decide +kernel
theorem d_O_free_66 : decode prog_1_method_33_code 66 = .ok (.iload 5, 2) := by decide +kernel
theorem d_O_free_68 : decode prog_1_method_33_code 68 = .ok (.ireturn, 1) := by decide +kernel
theorem d_O_free_69 : decode prog_1_method_33_code 69 = .ok (.iload 5, 2) := by decide +kernel
theorem d_O_free_71 : decode prog_1_method_33_code 71 = .ok (.invokestatic 280, 3) := by decide +kernel
theorem d_O_free_74 : decode prog_1_method_33_code 74 = .ok (.istore 5, 2) := by decide +kernel
theorem d_O_free_76 : decode prog_1_method_33_code 76 = .ok (.iinc 6 1, 3) := by decide +kernel
theorem d_O_free_79 : decode prog_1_method_33_code 79 = .ok (.goto (-31), 3) := by decide +kernel
theorem d_O_free_82 : decode prog_1_method_33_code 82 = .ok (.iconst (-1), 1) := by decide +kernel
theorem d_O_free_83 : decode prog_1_method_33_code 83 = .ok (.ireturn, 1) := by decide +kernel
theorem d_O_turnAll_0 : decode prog_1_method_64_code 0 = .ok (.iconst 0, 1) := by decide +kernel
theorem d_O_turnAll_1 : decode prog_1_method_64_code 1 = .ok (.istore_n 2, 1) := by decide +kernel
theorem d_O_turnAll_2 : decode prog_1_method_64_code 2 = .ok (.iconst 0, 1) := by decide +kernel
theorem d_O_turnAll_3 : decode prog_1_method_64_code 3 = .ok (.istore_n 3, 1) := by decide +kernel
theorem d_O_turnAll_4 : decode prog_1_method_64_code 4 = .ok (.iload_n 3, 1) := by decide +kernel
theorem d_O_turnAll_5 : decode prog_1_method_64_code 5 = .ok (.aload_n 0, 1) := by decide +kernel
theorem d_O_turnAll_6 : decode prog_1_method_64_code 6 = .ok (.getfield 48, 3) := by decide +kernel
theorem d_O_turnAll_9 : decode prog_1_method_64_code 9 = .ok (.getfield 110, 3) := by decide +kernel
theorem d_O_turnAll_12 : decode prog_1_method_64_code 12 = .ok (.getfield 258, 3) := by decide +kernel
theorem d_O_turnAll_15 : decode prog_1_method_64_code 15 = .ok (.if_icmp .ge 42, 3) := by decide +kernel
theorem d_O_turnAll_18 : decode prog_1_method_64_code 18 = .ok (.iconst 0, 1) := by decide +kernel
theorem d_O_turnAll_19 : decode prog_1_method_64_code 19 = .ok (.istore 4, 2) := by decide +kernel
theorem d_O_turnAll_21 : decode prog_1_method_64_code 21 = .ok (.iload 4, 2) := by decide +kernel
theorem d_O_turnAll_23 : decode prog_1_method_64_code 23 = .ok (.bipush 8, 2) := by decide +kernel
theorem d_O_turnAll_25 : decode prog_1_method_64_code 25 = .ok (.if_icmp .ge 26, 3) := by decide +kernel
theorem d_O_turnAll_28 : decode prog_1_method_64_code 28 = .ok (.aload_n 0, 1) := by decide +kernel
theorem d_O_turnAll_29 : decode prog_1_method_64_code 29 = .ok (.getfield 62, 3) := by decide +kernel
theorem d_O_turnAll_32 : decode prog_1_method_64_code 32 = .ok (.iload_n 2, 1) := by decide +kernel
theorem d_O_turnAll_33 : decode prog_1_method_64_code 33 = .ok (.aload_n 1, 1) := by decide +kernel
theorem d_O_turnAll_34 : decode prog_1_method_64_code 34 = .ok (.iload_n 3, 1) := by decide +kernel
theorem d_O_turnAll_35 : decode prog_1_method_64_code 35 = .ok (.iaload, 1) := by decide +kernel
theorem d_O_turnAll_36 : decode prog_1_method_64_code 36 = .ok (.iload 4, 2) := by decide +kernel
theorem d_O_turnAll_38 : decode prog_1_method_64_code 38 = .ok (.invokestatic 230, 3) := by decide +kernel
theorem d_O_turnAll_41 : decode prog_1_method_64_code 41 = .ok (.iastore, 1) := by decide +kernel
theorem d_O_turnAll_42 : decode prog_1_method_64_code 42 = .ok (.iinc 2 1, 3) := by decide +kernel
theorem d_O_turnAll_45 : decode prog_1_method_64_code 45 = .ok (.iinc 4 1, 3) := by decide +kernel
theorem d_O_turnAll_48 : decode prog_1_method_64_code 48 = .ok (.goto (-27), 3) := by decide +kernel
theorem d_O_turnAll_51 : decode prog_1_method_64_code 51 = .ok (.iinc 3 1, 3) := by decide +kernel
theorem d_O_turnAll_54 : decode prog_1_method_64_code 54 = .ok (.goto (-50), 3) := by decide +kernel
theorem d_O_turnAll_57 : decode prog_1_method_64_code 57 = .ok (.iload_n 2, 1) := by decide +kernel
theorem d_O_turnAll_58 : decode prog_1_method_64_code 58 = .ok (.ireturn, 1) := by decide +kernel
theorem d_K_countSets_0 : decode prog_7_method_20_code 0 = .ok (.iconst 1, 1) := by decide +kernel
theorem d_K_countSets_1 : decode prog_7_method_20_code 1 = .ok (.istore_n 1, 1) := by decide +kernel
theorem d_K_countSets_2 : decode prog_7_method_20_code 2 = .ok (.iconst 0, 1) := by decide +kernel
theorem d_K_countSets_3 : decode prog_7_method_20_code 3 = .ok (.istore_n 2, 1) := by decide +kernel
theorem d_K_countSets_4 : decode prog_7_method_20_code 4 = .ok (.iload_n 2, 1) := by decide +kernel
theorem d_K_countSets_5 : decode prog_7_method_20_code 5 = .ok (.iload_n 0, 1) := by decide +kernel
theorem d_K_countSets_6 : decode prog_7_method_20_code 6 = .ok (.if_icmp .ge 20, 3) := by decide +kernel
theorem d_K_countSets_9 : decode prog_7_method_20_code 9 = .ok (.iload_n 1, 1) := by decide +kernel
theorem d_K_countSets_10 : decode prog_7_method_20_code 10 = .ok (.bipush 20, 2) := by decide +kernel
theorem d_K_countSets_12 : decode prog_7_method_20_code 12 = .ok (.iload_n 2, 1) := by decide +kernel
theorem d_K_countSets_13 : decode prog_7_method_20_code 13 = .ok (.isub, 1) := by decide +kernel
theorem d_K_countSets_14 : decode prog_7_method_20_code 14 = .ok (.imul, 1) := by decide +kernel
theorem d_K_countSets_15 : decode prog_7_method_20_code 15 = .ok (.iload_n 2, 1) := by decide +kernel
theorem d_K_countSets_16 : decode prog_7_method_20_code 16 = .ok (.iconst 1, 1) := by decide +kernel
theorem d_K_countSets_17 : decode prog_7_method_20_code 17 = .ok (.iadd, 1) := by decide +kernel
theorem d_K_countSets_18 : decode prog_7_method_20_code 18 = .ok (.idiv, 1) := by decide +kernel
theorem d_K_countSets_19 : decode prog_7_method_20_code 19 = .ok (.istore_n 1, 1) := by decide +kernel
theorem d_K_countSets_20 : decode prog_7_method_20_code 20 = .ok (.iinc 2 1, 3) := by decide +kernel
theorem d_K_countSets_23 : decode prog_7_method_20_code 23 = .ok (.goto (-19), 3) := by decide +kernel
theorem d_K_countSets_26 : decode prog_7_method_20_code 26 = .ok (.iload_n 1, 1) := by decide +kernel
theorem d_K_countSets_27 : decode prog_7_method_20_code 27 = .ok (.ireturn, 1) := by decide +kernel
theorem d_K_lowestOf_0 : decode prog_7_method_21_code 0 = .ok (.iconst 1, 1) := by decide +kernel
theorem d_K_lowestOf_1 : decode prog_7_method_21_code 1 = .ok (.iload_n 0, 1) := by decide +kernel
theorem d_K_lowestOf_2 : decode prog_7_method_21_code 2 = .ok (.ishl, 1) := by decide +kernel
theorem d_K_lowestOf_3 : decode prog_7_method_21_code 3 = .ok (.iconst 1, 1) := by decide +kernel
theorem d_K_lowestOf_4 : decode prog_7_method_21_code 4 = .ok (.isub, 1) := by decide +kernel
theorem d_K_lowestOf_5 : decode prog_7_method_21_code 5 = .ok (.ireturn, 1) := by decide +kernel
theorem d_O_isFreeOf_0 : decode prog_1_method_65_code 0 = .ok (.iconst 0, 1) := by decide +kernel
theorem d_O_isFreeOf_1 : decode prog_1_method_65_code 1 = .ok (.istore 4, 2) := by decide +kernel
theorem d_O_isFreeOf_3 : decode prog_1_method_65_code 3 = .ok (.iload 4, 2) := by decide +kernel
theorem d_O_isFreeOf_5 : decode prog_1_method_65_code 5 = .ok (.iload_n 1, 1) := by decide +kernel
theorem d_O_isFreeOf_6 : decode prog_1_method_65_code 6 = .ok (.if_icmp .ge 60, 3) := by decide +kernel
theorem d_O_isFreeOf_9 : decode prog_1_method_65_code 9 = .ok (.aload_n 0, 1) := by decide +kernel
theorem d_O_isFreeOf_10 : decode prog_1_method_65_code 10 = .ok (.getfield 62, 3) := by decide +kernel
theorem d_O_isFreeOf_13 : decode prog_1_method_65_code 13 = .ok (.iload 4, 2) := by decide +kernel
theorem d_O_isFreeOf_15 : decode prog_1_method_65_code 15 = .ok (.iaload, 1) := by decide +kernel
theorem d_O_isFreeOf_16 : decode prog_1_method_65_code 16 = .ok (.istore 5, 2) := by decide +kernel
theorem d_O_isFreeOf_18 : decode prog_1_method_65_code 18 = .ok (.iload_n 2, 1) := by decide +kernel
theorem d_O_isFreeOf_19 : decode prog_1_method_65_code 19 = .ok (.iload 5, 2) := by decide +kernel
theorem d_O_isFreeOf_21 : decode prog_1_method_65_code 21 = .ok (.iand, 1) := by decide +kernel
theorem d_O_isFreeOf_22 : decode prog_1_method_65_code 22 = .ok (.iload_n 2, 1) := by decide +kernel
theorem d_O_isFreeOf_23 : decode prog_1_method_65_code 23 = .ok (.if_icmp .eq 12, 3) := by decide +kernel
theorem d_O_isFreeOf_26 : decode prog_1_method_65_code 26 = .ok (.iload_n 2, 1) := by decide +kernel
theorem d_O_isFreeOf_27 : decode prog_1_method_65_code 27 = .ok (.iload 5, 2) := by decide +kernel
theorem d_O_isFreeOf_29 : decode prog_1_method_65_code 29 = .ok (.iand, 1) := by decide +kernel
theorem d_O_isFreeOf_30 : decode prog_1_method_65_code 30 = .ok (.iload 5, 2) := by decide +kernel
theorem d_O_isFreeOf_32 : decode prog_1_method_65_code 32 = .ok (.if_icmp .ne 7, 3) := by decide +kernel
theorem d_O_isFreeOf_35 : decode prog_1_method_65_code 35 = .ok (.iconst 1, 1) := by decide +kernel
theorem d_O_isFreeOf_36 : decode prog_1_method_65_code 36 = .ok (.goto 4, 3) := by decide +kernel
theorem d_O_isFreeOf_39 : decode prog_1_method_65_code 39 = .ok (.iconst 0, 1) := by decide +kernel
theorem d_O_isFreeOf_40 : decode prog_1_method_65_code 40 = .ok (.istore 6, 2) := by decide +kernel
theorem d_O_isFreeOf_42 : decode prog_1_method_65_code 42 = .ok (.iload 6, 2) := by decide +kernel
theorem d_O_isFreeOf_44 : decode prog_1_method_65_code 44 = .ok (.ifCond .eq 16, 3) := by decide +kernel
theorem d_O_isFreeOf_47 : decode prog_1_method_65_code 47 = .ok (.iload_n 2, 1) := by decide +kernel
theorem d_O_isFreeOf_48 : decode prog_1_method_65_code 48 = .ok (.iload 5, 2) := by decide +kernel
theorem d_O_isFreeOf_50 : decode prog_1_method_65_code 50 = .ok (.ixor, 1) := by decide +kernel
theorem d_O_isFreeOf_51 : decode prog_1_method_65_code 51 = .ok (.invokestatic 175, 3) := by decide +kernel
theorem d_O_isFreeOf_54 : decode prog_1_method_65_code 54 = .ok (.iload_n 3, 1) := by decide +kernel
theorem d_O_isFreeOf_55 : decode prog_1_method_65_code 55 = .ok (.if_icmp .gt 5, 3) := by decide +kernel
theorem d_O_isFreeOf_58 : decode prog_1_method_65_code 58 = .ok (.iconst 0, 1) := by decide +kernel
theorem d_O_isFreeOf_59 : decode prog_1_method_65_code 59 = .ok (.ireturn, 1) := by decide +kernel
theorem d_O_isFreeOf_60 : decode prog_1_method_65_code 60 = .ok (.iinc 4 1, 3) := by decide +kernel
theorem d_O_isFreeOf_63 : decode prog_1_method_65_code 63 = .ok (.goto (-60), 3) := by decide +kernel
theorem d_O_isFreeOf_66 : decode prog_1_method_65_code 66 = .ok (.iconst 1, 1) := by decide +kernel
theorem d_O_isFreeOf_67 : decode prog_1_method_65_code 67 = .ok (.ireturn, 1) := by decide +kernel
theorem d_K_nextOf_0 : decode prog_7_method_23_code 0 = .ok (.iload_n 0, 1) := by decide +kernel
theorem d_K_nextOf_1 : decode prog_7_method_23_code 1 = .ok (.ifCond .gt 5, 3) := by decide +kernel
theorem d_K_nextOf_4 : decode prog_7_method_23_code 4 = .ok (.iconst 0, 1) := by decide +kernel
theorem d_K_nextOf_5 : decode prog_7_method_23_code 5 = .ok (.ireturn, 1) := by decide +kernel
theorem d_K_nextOf_6 : decode prog_7_method_23_code 6 = .ok (.iload_n 0, 1) := by decide +kernel
theorem d_K_nextOf_7 : decode prog_7_method_23_code 7 = .ok (.iload_n 0, 1) := by decide +kernel
theorem d_K_nextOf_8 : decode prog_7_method_23_code 8 = .ok (.iload_n 0, 1) := by decide +kernel
theorem d_K_nextOf_9 : decode prog_7_method_23_code 9 = .ok (.ineg, 1) := by decide +kernel
theorem d_K_nextOf_10 : decode prog_7_method_23_code 10 = .ok (.iand, 1) := by decide +kernel
theorem d_K_nextOf_11 : decode prog_7_method_23_code 11 = .ok (.iadd, 1) := by decide +kernel
theorem d_K_nextOf_12 : decode prog_7_method_23_code 12 = .ok (.istore_n 1, 1) := by decide +kernel
theorem d_K_nextOf_13 : decode prog_7_method_23_code 13 = .ok (.iload_n 1, 1) := by decide +kernel
theorem d_K_nextOf_14 : decode prog_7_method_23_code 14 = .ok (.iload_n 0, 1) := by decide +kernel
theorem d_K_nextOf_15 : decode prog_7_method_23_code 15 = .ok (.iload_n 1, 1) := by decide +kernel
theorem d_K_nextOf_16 : decode prog_7_method_23_code 16 = .ok (.ixor, 1) := by decide +kernel
theorem d_K_nextOf_17 : decode prog_7_method_23_code 17 = .ok (.iconst 2, 1) := by decide +kernel
theorem d_K_nextOf_18 : decode prog_7_method_23_code 18 = .ok (.iload_n 0, 1) := by decide +kernel
theorem d_K_nextOf_19 : decode prog_7_method_23_code 19 = .ok (.invokestatic 45, 3) := by decide +kernel
theorem d_K_nextOf_22 : decode prog_7_method_23_code 22 = .ok (.iadd, 1) := by decide +kernel
theorem d_K_nextOf_23 : decode prog_7_method_23_code 23 = .ok (.iushr, 1) := by decide +kernel
theorem d_K_nextOf_24 : decode prog_7_method_23_code 24 = .ok (.ior, 1) := by decide +kernel
theorem d_K_nextOf_25 : decode prog_7_method_23_code 25 = .ok (.ireturn, 1) := by decide +kernel
theorem d_O_kinds_0 : decode prog_1_method_34_code 0 = .ok (.iload_n 1, 1) := by decide +kernel
theorem d_O_kinds_1 : decode prog_1_method_34_code 1 = .ok (.ifCond .lt 9, 3) := by decide +kernel
theorem d_O_kinds_4 : decode prog_1_method_34_code 4 = .ok (.iload_n 1, 1) := by decide +kernel
theorem d_O_kinds_5 : decode prog_1_method_34_code 5 = .ok (.bipush 20, 2) := by decide +kernel
theorem d_O_kinds_7 : decode prog_1_method_34_code 7 = .ok (.if_icmp .le 7, 3) := by decide +kernel
theorem d_O_kinds_10 : decode prog_1_method_34_code 10 = .ok (.ldc2_w 283, 3) := by decide +kernel
theorem d_O_kinds_13 : decode prog_1_method_34_code 13 = .ok (.lreturn, 1) := by decide +kernel
theorem d_O_kinds_14 : decode prog_1_method_34_code 14 = .ok (.lconst 0, 1) := by decide +kernel
theorem d_O_kinds_15 : decode prog_1_method_34_code 15 = .ok (.lstore_n 2, 1) := by decide +kernel
theorem d_O_kinds_16 : decode prog_1_method_34_code 16 = .ok (.iconst 0, 1) := by decide +kernel
theorem d_O_kinds_17 : decode prog_1_method_34_code 17 = .ok (.istore 4, 2) := by decide +kernel
theorem d_O_kinds_19 : decode prog_1_method_34_code 19 = .ok (.iload 4, 2) := by decide +kernel
theorem d_O_kinds_21 : decode prog_1_method_34_code 21 = .ok (.bipush 8, 2) := by decide +kernel
theorem d_O_kinds_23 : decode prog_1_method_34_code 23 = .ok (.if_icmp .ge 22, 3) := by decide +kernel
theorem d_O_kinds_26 : decode prog_1_method_34_code 26 = .ok (.lload_n 2, 1) := by decide +kernel
theorem d_O_kinds_27 : decode prog_1_method_34_code 27 = .ok (.iload 4, 2) := by decide +kernel
theorem d_O_kinds_29 : decode prog_1_method_34_code 29 = .ok (.iload_n 1, 1) := by decide +kernel
theorem d_O_kinds_30 : decode prog_1_method_34_code 30 = .ok (.aload_n 0, 1) := by decide +kernel
theorem d_O_kinds_31 : decode prog_1_method_34_code 31 = .ok (.getfield 68, 3) := by decide +kernel
theorem d_O_kinds_34 : decode prog_1_method_34_code 34 = .ok (.invokestatic 285, 3) := by decide +kernel
theorem d_O_kinds_37 : decode prog_1_method_34_code 37 = .ok (.ladd, 1) := by decide +kernel
theorem d_O_kinds_38 : decode prog_1_method_34_code 38 = .ok (.lstore_n 2, 1) := by decide +kernel
theorem d_O_kinds_39 : decode prog_1_method_34_code 39 = .ok (.iinc 4 1, 3) := by decide +kernel
theorem d_O_kinds_42 : decode prog_1_method_34_code 42 = .ok (.goto (-23), 3) := by decide +kernel
theorem d_O_kinds_45 : decode prog_1_method_34_code 45 = .ok (.lload_n 2, 1) := by decide +kernel
theorem d_O_kinds_46 : decode prog_1_method_34_code 46 = .ok (.ldc2_w 289, 3) := by decide +kernel
theorem d_O_kinds_49 : decode prog_1_method_34_code 49 = .ok (.ldiv, 1) := by decide +kernel
theorem d_O_kinds_50 : decode prog_1_method_34_code 50 = .ok (.lreturn, 1) := by decide +kernel
theorem d_K_countKeptBy_0 : decode prog_7_method_24_code 0 = .ok (.iconst 1, 1) := by decide +kernel
theorem d_K_countKeptBy_1 : decode prog_7_method_24_code 1 = .ok (.istore_n 3, 1) := by decide +kernel
theorem d_K_countKeptBy_2 : decode prog_7_method_24_code 2 = .ok (.iload_n 3, 1) := by decide +kernel
theorem d_K_countKeptBy_3 : decode prog_7_method_24_code 3 = .ok (.bipush 20, 2) := by decide +kernel
theorem d_K_countKeptBy_5 : decode prog_7_method_24_code 5 = .ok (.if_icmp .gt 13, 3) := by decide +kernel
theorem d_K_countKeptBy_8 : decode prog_7_method_24_code 8 = .ok (.aload_n 2, 1) := by decide +kernel
theorem d_K_countKeptBy_9 : decode prog_7_method_24_code 9 = .ok (.iload_n 3, 1) := by decide +kernel
theorem d_K_countKeptBy_10 : decode prog_7_method_24_code 10 = .ok (.lconst 0, 1) := by decide +kernel
theorem d_K_countKeptBy_11 : decode prog_7_method_24_code 11 = .ok (.lastore, 1) := by decide +kernel
theorem d_K_countKeptBy_12 : decode prog_7_method_24_code 12 = .ok (.iinc 3 1, 3) := by decide +kernel
theorem d_K_countKeptBy_15 : decode prog_7_method_24_code 15 = .ok (.goto (-13), 3) := by decide +kernel
theorem d_K_countKeptBy_18 : decode prog_7_method_24_code 18 = .ok (.aload_n 2, 1) := by decide +kernel
theorem d_K_countKeptBy_19 : decode prog_7_method_24_code 19 = .ok (.iconst 0, 1) := by decide +kernel
theorem d_K_countKeptBy_20 : decode prog_7_method_24_code 20 = .ok (.lconst 1, 1) := by decide +kernel
theorem d_K_countKeptBy_21 : decode prog_7_method_24_code 21 = .ok (.lastore, 1) := by decide +kernel
theorem d_K_countKeptBy_22 : decode prog_7_method_24_code 22 = .ok (.iconst 0, 1) := by decide +kernel
theorem d_K_countKeptBy_23 : decode prog_7_method_24_code 23 = .ok (.istore_n 3, 1) := by decide +kernel
theorem d_K_countKeptBy_24 : decode prog_7_method_24_code 24 = .ok (.iconst 0, 1) := by decide +kernel
theorem d_K_countKeptBy_25 : decode prog_7_method_24_code 25 = .ok (.istore 4, 2) := by decide +kernel
theorem d_K_countKeptBy_27 : decode prog_7_method_24_code 27 = .ok (.iload 4, 2) := by decide +kernel
theorem d_K_countKeptBy_29 : decode prog_7_method_24_code 29 = .ok (.bipush 20, 2) := by decide +kernel
theorem d_K_countKeptBy_31 : decode prog_7_method_24_code 31 = .ok (.if_icmp .ge 94, 3) := by decide +kernel
theorem d_K_countKeptBy_34 : decode prog_7_method_24_code 34 = .ok (.iconst 0, 1) := by decide +kernel
theorem d_K_countKeptBy_35 : decode prog_7_method_24_code 35 = .ok (.istore 5, 2) := by decide +kernel
theorem d_K_countKeptBy_37 : decode prog_7_method_24_code 37 = .ok (.iload 4, 2) := by decide +kernel
theorem d_K_countKeptBy_39 : decode prog_7_method_24_code 39 = .ok (.istore 6, 2) := by decide +kernel
theorem d_K_countKeptBy_41 : decode prog_7_method_24_code 41 = .ok (.iload_n 3, 1) := by decide +kernel
theorem d_K_countKeptBy_42 : decode prog_7_method_24_code 42 = .ok (.iload 6, 2) := by decide +kernel
theorem d_K_countKeptBy_44 : decode prog_7_method_24_code 44 = .ok (.ishr, 1) := by decide +kernel
theorem d_K_countKeptBy_45 : decode prog_7_method_24_code 45 = .ok (.iconst 1, 1) := by decide +kernel
theorem d_K_countKeptBy_46 : decode prog_7_method_24_code 46 = .ok (.iand, 1) := by decide +kernel
theorem d_K_countKeptBy_47 : decode prog_7_method_24_code 47 = .ok (.ifCond .ne 36, 3) := by decide +kernel
theorem d_K_countKeptBy_50 : decode prog_7_method_24_code 50 = .ok (.iload 5, 2) := by decide +kernel
theorem d_K_countKeptBy_52 : decode prog_7_method_24_code 52 = .ok (.bipush 20, 2) := by decide +kernel
theorem d_K_countKeptBy_54 : decode prog_7_method_24_code 54 = .ok (.if_icmp .ge 29, 3) := by decide +kernel
theorem d_K_countKeptBy_57 : decode prog_7_method_24_code 57 = .ok (.iload_n 3, 1) := by decide +kernel
theorem d_K_countKeptBy_58 : decode prog_7_method_24_code 58 = .ok (.iconst 1, 1) := by decide +kernel
theorem d_K_countKeptBy_59 : decode prog_7_method_24_code 59 = .ok (.iload 6, 2) := by decide +kernel
theorem d_K_countKeptBy_61 : decode prog_7_method_24_code 61 = .ok (.ishl, 1) := by decide +kernel
theorem d_K_countKeptBy_62 : decode prog_7_method_24_code 62 = .ok (.ior, 1) := by decide +kernel
theorem d_K_countKeptBy_63 : decode prog_7_method_24_code 63 = .ok (.istore_n 3, 1) := by decide +kernel
theorem d_K_countKeptBy_64 : decode prog_7_method_24_code 64 = .ok (.getstatic 15, 3) := by decide +kernel
theorem d_K_countKeptBy_67 : decode prog_7_method_24_code 67 = .ok (.iload_n 0, 1) := by decide +kernel
theorem d_K_countKeptBy_68 : decode prog_7_method_24_code 68 = .ok (.bipush 20, 2) := by decide +kernel
theorem d_K_countKeptBy_70 : decode prog_7_method_24_code 70 = .ok (.imul, 1) := by decide +kernel
theorem d_K_countKeptBy_71 : decode prog_7_method_24_code 71 = .ok (.iload 6, 2) := by decide +kernel
theorem d_K_countKeptBy_73 : decode prog_7_method_24_code 73 = .ok (.iadd, 1) := by decide +kernel
theorem d_K_countKeptBy_74 : decode prog_7_method_24_code 74 = .ok (.iaload, 1) := by decide +kernel
theorem d_K_countKeptBy_75 : decode prog_7_method_24_code 75 = .ok (.istore 6, 2) := by decide +kernel
theorem d_K_countKeptBy_77 : decode prog_7_method_24_code 77 = .ok (.iinc 5 1, 3) := by decide +kernel
theorem d_K_countKeptBy_80 : decode prog_7_method_24_code 80 = .ok (.goto (-39), 3) := by decide +kernel
theorem d_K_countKeptBy_83 : decode prog_7_method_24_code 83 = .ok (.bipush 20, 2) := by decide +kernel
theorem d_K_countKeptBy_85 : decode prog_7_method_24_code 85 = .ok (.istore 6, 2) := by decide +kernel
theorem d_K_countKeptBy_87 : decode prog_7_method_24_code 87 = .ok (.iload 5, 2) := by decide +kernel
theorem d_K_countKeptBy_89 : decode prog_7_method_24_code 89 = .ok (.ifCond .le 30, 3) := by decide +kernel
theorem d_K_countKeptBy_92 : decode prog_7_method_24_code 92 = .ok (.iload 6, 2) := by decide +kernel
theorem d_K_countKeptBy_94 : decode prog_7_method_24_code 94 = .ok (.iload 5, 2) := by decide +kernel
theorem d_K_countKeptBy_96 : decode prog_7_method_24_code 96 = .ok (.if_icmp .lt 23, 3) := by decide +kernel
theorem d_K_countKeptBy_99 : decode prog_7_method_24_code 99 = .ok (.aload_n 2, 1) := by decide +kernel
theorem d_K_countKeptBy_100 : decode prog_7_method_24_code 100 = .ok (.iload 6, 2) := by decide +kernel
theorem d_K_countKeptBy_102 : decode prog_7_method_24_code 102 = .ok (.dup2, 1) := by decide +kernel
theorem d_K_countKeptBy_103 : decode prog_7_method_24_code 103 = .ok (.laload, 1) := by decide +kernel
theorem d_K_countKeptBy_104 : decode prog_7_method_24_code 104 = .ok (.aload_n 2, 1) := by decide +kernel
theorem d_K_countKeptBy_105 : decode prog_7_method_24_code 105 = .ok (.iload 6, 2) := by decide +kernel
theorem d_K_countKeptBy_107 : decode prog_7_method_24_code 107 = .ok (.iload 5, 2) := by decide +kernel
theorem d_K_countKeptBy_109 : decode prog_7_method_24_code 109 = .ok (.isub, 1) := by decide +kernel
theorem d_K_countKeptBy_110 : decode prog_7_method_24_code 110 = .ok (.laload, 1) := by decide +kernel
theorem d_K_countKeptBy_111 : decode prog_7_method_24_code 111 = .ok (.ladd, 1) := by decide +kernel
theorem d_K_countKeptBy_112 : decode prog_7_method_24_code 112 = .ok (.lastore, 1) := by decide +kernel
theorem d_K_countKeptBy_113 : decode prog_7_method_24_code 113 = .ok (.iinc 6 (-1), 3) := by decide +kernel
theorem d_K_countKeptBy_116 : decode prog_7_method_24_code 116 = .ok (.goto (-29), 3) := by decide +kernel
theorem d_K_countKeptBy_119 : decode prog_7_method_24_code 119 = .ok (.iinc 4 1, 3) := by decide +kernel
theorem d_K_countKeptBy_122 : decode prog_7_method_24_code 122 = .ok (.goto (-95), 3) := by decide +kernel
theorem d_K_countKeptBy_125 : decode prog_7_method_24_code 125 = .ok (.aload_n 2, 1) := by decide +kernel
theorem d_K_countKeptBy_126 : decode prog_7_method_24_code 126 = .ok (.iload_n 1, 1) := by decide +kernel
theorem d_K_countKeptBy_127 : decode prog_7_method_24_code 127 = .ok (.laload, 1) := by decide +kernel
theorem d_K_countKeptBy_128 : decode prog_7_method_24_code 128 = .ok (.lreturn, 1) := by decide +kernel
theorem d_O_witness_0 : decode prog_1_method_35_code 0 = .ok (.iload_n 1, 1) := by decide +kernel
theorem d_O_witness_1 : decode prog_1_method_35_code 1 = .ok (.iconst (-1), 1) := by decide +kernel
theorem d_O_witness_2 : decode prog_1_method_35_code 2 = .ok (.if_icmp .ne 21, 3) := by decide +kernel
theorem d_O_witness_5 : decode prog_1_method_35_code 5 = .ok (.aload_n 0, 1) := by decide +kernel
theorem d_O_witness_6 : decode prog_1_method_35_code 6 = .ok (.getfield 48, 3) := by decide +kernel
theorem d_O_witness_9 : decode prog_1_method_35_code 9 = .ok (.iconst 0, 1) := by decide +kernel
theorem d_O_witness_10 : decode prog_1_method_35_code 10 = .ok (.putfield 291, 3) := by decide +kernel
theorem d_O_witness_13 : decode prog_1_method_35_code 13 = .ok (.aload_n 0, 1) := by decide +kernel
theorem d_O_witness_14 : decode prog_1_method_35_code 14 = .ok (.getfield 48, 3) := by decide +kernel
theorem d_O_witness_17 : decode prog_1_method_35_code 17 = .ok (.iconst 0, 1) := by decide +kernel
theorem d_O_witness_18 : decode prog_1_method_35_code 18 = .ok (.putfield 294, 3) := by decide +kernel
theorem d_O_witness_21 : decode prog_1_method_35_code 21 = .ok (.iconst 0, 1) := by decide +kernel
theorem d_O_witness_22 : decode prog_1_method_35_code 22 = .ok (.ireturn, 1) := by decide +kernel
theorem d_O_witness_23 : decode prog_1_method_35_code 23 = .ok (.iload_n 1, 1) := by decide +kernel
theorem d_O_witness_24 : decode prog_1_method_35_code 24 = .ok (.invokestatic 198, 3) := by decide +kernel
theorem d_O_witness_27 : decode prog_1_method_35_code 27 = .ok (.ifCond .eq 26, 3) := by decide +kernel
theorem d_O_witness_30 : decode prog_1_method_35_code 30 = .ok (.aload_n 0, 1) := by decide +kernel
theorem d_O_witness_31 : decode prog_1_method_35_code 31 = .ok (.getfield 48, 3) := by decide +kernel
theorem d_O_witness_34 : decode prog_1_method_35_code 34 = .ok (.getfield 291, 3) := by decide +kernel
theorem d_O_witness_37 : decode prog_1_method_35_code 37 = .ok (.aload_n 0, 1) := by decide +kernel
theorem d_O_witness_38 : decode prog_1_method_35_code 38 = .ok (.getfield 48, 3) := by decide +kernel
theorem d_O_witness_41 : decode prog_1_method_35_code 41 = .ok (.getfield 294, 3) := by decide +kernel
theorem d_O_witness_44 : decode prog_1_method_35_code 44 = .ok (.ior, 1) := by decide +kernel
theorem d_O_witness_45 : decode prog_1_method_35_code 45 = .ok (.iload_n 1, 1) := by decide +kernel
theorem d_O_witness_46 : decode prog_1_method_35_code 46 = .ok (.ishr, 1) := by decide +kernel
theorem d_O_witness_47 : decode prog_1_method_35_code 47 = .ok (.iconst 1, 1) := by decide +kernel
theorem d_O_witness_48 : decode prog_1_method_35_code 48 = .ok (.iand, 1) := by decide +kernel
theorem d_O_witness_49 : decode prog_1_method_35_code 49 = .ok (.iconst 1, 1) := by decide +kernel
theorem d_O_witness_50 : decode prog_1_method_35_code 50 = .ok (.if_icmp .ne 6, 3) := by decide +kernel
theorem d_O_witness_53 : decode prog_1_method_35_code 53 = .ok (.bipush (-2), 2) := by decide +kernel
theorem d_O_witness_55 : decode prog_1_method_35_code 55 = .ok (.ireturn, 1) := by decide +kernel
theorem d_O_witness_56 : decode prog_1_method_35_code 56 = .ok (.iload_n 2, 1) := by decide +kernel
theorem d_O_witness_57 : decode prog_1_method_35_code 57 = .ok (.ifCond .eq 21, 3) := by decide +kernel
theorem d_O_witness_60 : decode prog_1_method_35_code 60 = .ok (.aload_n 0, 1) := by decide +kernel
theorem d_O_witness_61 : decode prog_1_method_35_code 61 = .ok (.getfield 48, 3) := by decide +kernel
theorem d_O_witness_64 : decode prog_1_method_35_code 64 = .ok (.dup, 1) := by decide +kernel
theorem d_O_witness_65 : decode prog_1_method_35_code 65 = .ok (.getfield 291, 3) := by decide +kernel
theorem d_O_witness_68 : decode prog_1_method_35_code 68 = .ok (.iconst 1, 1) := by decide +kernel
theorem d_O_witness_69 : decode prog_1_method_35_code 69 = .ok (.iload_n 1, 1) := by decide +kernel
theorem d_O_witness_70 : decode prog_1_method_35_code 70 = .ok (.ishl, 1) := by decide +kernel
theorem d_O_witness_71 : decode prog_1_method_35_code 71 = .ok (.ior, 1) := by decide +kernel
theorem d_O_witness_72 : decode prog_1_method_35_code 72 = .ok (.putfield 291, 3) := by decide +kernel
theorem d_O_witness_75 : decode prog_1_method_35_code 75 = .ok (.goto 18, 3) := by decide +kernel
theorem d_O_witness_78 : decode prog_1_method_35_code 78 = .ok (.aload_n 0, 1) := by decide +kernel
theorem d_O_witness_79 : decode prog_1_method_35_code 79 = .ok (.getfield 48, 3) := by decide +kernel
theorem d_O_witness_82 : decode prog_1_method_35_code 82 = .ok (.dup, 1) := by decide +kernel
theorem d_O_witness_83 : decode prog_1_method_35_code 83 = .ok (.getfield 294, 3) := by decide +kernel
theorem d_O_witness_86 : decode prog_1_method_35_code 86 = .ok (.iconst 1, 1) := by decide +kernel
theorem d_O_witness_87 : decode prog_1_method_35_code 87 = .ok (.iload_n 1, 1) := by decide +kernel
theorem d_O_witness_88 : decode prog_1_method_35_code 88 = .ok (.ishl, 1) := by decide +kernel
theorem d_O_witness_89 : decode prog_1_method_35_code 89 = .ok (.ior, 1) := by decide +kernel
theorem d_O_witness_90 : decode prog_1_method_35_code 90 = .ok (.putfield 294, 3) := by decide +kernel
theorem d_O_witness_93 : decode prog_1_method_35_code 93 = .ok (.aload_n 0, 1) := by decide +kernel
theorem d_O_witness_94 : decode prog_1_method_35_code 94 = .ok (.getfield 48, 3) := by decide +kernel
theorem d_O_witness_97 : decode prog_1_method_35_code 97 = .ok (.invokevirtual 297, 3) := by decide +kernel
theorem d_O_witness_100 : decode prog_1_method_35_code 100 = .ok (.ireturn, 1) := by decide +kernel
theorem d_H_countTold_0 : decode prog_2_method_10_code 0 = .ok (.aload_n 0, 1) := by decide +kernel
theorem d_H_countTold_1 : decode prog_2_method_10_code 1 = .ok (.getfield 52, 3) := by decide +kernel
theorem d_H_countTold_4 : decode prog_2_method_10_code 4 = .ok (.aload_n 0, 1) := by decide +kernel
theorem d_H_countTold_5 : decode prog_2_method_10_code 5 = .ok (.getfield 55, 3) := by decide +kernel
theorem d_H_countTold_8 : decode prog_2_method_10_code 8 = .ok (.ior, 1) := by decide +kernel
theorem d_H_countTold_9 : decode prog_2_method_10_code 9 = .ok (.invokestatic 73, 3) := by decide +kernel
theorem d_H_countTold_12 : decode prog_2_method_10_code 12 = .ok (.ireturn, 1) := by decide +kernel
theorem d_O_which_0 : decode prog_1_method_36_code 0 = .ok (.iconst 0, 1) := by decide +kernel
theorem d_O_which_1 : decode prog_1_method_36_code 1 = .ok (.istore_n 1, 1) := by decide +kernel
theorem d_O_which_2 : decode prog_1_method_36_code 2 = .ok (.iconst 0, 1) := by decide +kernel
theorem d_O_which_3 : decode prog_1_method_36_code 3 = .ok (.istore_n 2, 1) := by decide +kernel
theorem d_O_which_4 : decode prog_1_method_36_code 4 = .ok (.iload_n 2, 1) := by decide +kernel
theorem d_O_which_5 : decode prog_1_method_36_code 5 = .ok (.aload_n 0, 1) := by decide +kernel
theorem d_O_which_6 : decode prog_1_method_36_code 6 = .ok (.getfield 48, 3) := by decide +kernel
theorem d_O_which_9 : decode prog_1_method_36_code 9 = .ok (.getfield 110, 3) := by decide +kernel
theorem d_O_which_12 : decode prog_1_method_36_code 12 = .ok (.getfield 258, 3) := by decide +kernel
theorem d_O_which_15 : decode prog_1_method_36_code 15 = .ok (.if_icmp .ge 23, 3) := by decide +kernel
theorem d_O_which_18 : decode prog_1_method_36_code 18 = .ok (.aload_n 0, 1) := by decide +kernel
theorem d_O_which_19 : decode prog_1_method_36_code 19 = .ok (.iload_n 2, 1) := by decide +kernel
theorem d_O_which_20 : decode prog_1_method_36_code 20 = .ok (.invokevirtual 300, 3) := by decide +kernel
theorem d_O_which_23 : decode prog_1_method_36_code 23 = .ok (.ifCond .eq 9, 3) := by decide +kernel
theorem d_O_which_26 : decode prog_1_method_36_code 26 = .ok (.iload_n 1, 1) := by decide +kernel
theorem d_O_which_27 : decode prog_1_method_36_code 27 = .ok (.iconst 1, 1) := by decide +kernel
theorem d_O_which_28 : decode prog_1_method_36_code 28 = .ok (.iload_n 2, 1) := by decide +kernel
theorem d_O_which_29 : decode prog_1_method_36_code 29 = .ok (.ishl, 1) := by decide +kernel
theorem d_O_which_30 : decode prog_1_method_36_code 30 = .ok (.ior, 1) := by decide +kernel
theorem d_O_which_31 : decode prog_1_method_36_code 31 = .ok (.istore_n 1, 1) := by decide +kernel
theorem d_O_which_32 : decode prog_1_method_36_code 32 = .ok (.iinc 2 1, 3) := by decide +kernel
theorem d_O_which_35 : decode prog_1_method_36_code 35 = .ok (.goto (-31), 3) := by decide +kernel
theorem d_O_which_38 : decode prog_1_method_36_code 38 = .ok (.iload_n 1, 1) := by decide +kernel
theorem d_O_which_39 : decode prog_1_method_36_code 39 = .ok (.ireturn, 1) := by decide +kernel
theorem d_O_fittingWays_0 : decode prog_1_method_67_code 0 = .ok (.iconst 0, 1) := by decide +kernel
theorem d_O_fittingWays_1 : decode prog_1_method_67_code 1 = .ok (.istore_n 2, 1) := by decide +kernel
theorem d_O_fittingWays_2 : decode prog_1_method_67_code 2 = .ok (.iconst 0, 1) := by decide +kernel
theorem d_O_fittingWays_3 : decode prog_1_method_67_code 3 = .ok (.istore_n 3, 1) := by decide +kernel
theorem d_O_fittingWays_4 : decode prog_1_method_67_code 4 = .ok (.iload_n 3, 1) := by decide +kernel
theorem d_O_fittingWays_5 : decode prog_1_method_67_code 5 = .ok (.bipush 8, 2) := by decide +kernel
theorem d_O_fittingWays_7 : decode prog_1_method_67_code 7 = .ok (.if_icmp .ge 41, 3) := by decide +kernel
theorem d_O_fittingWays_10 : decode prog_1_method_67_code 10 = .ok (.aload_n 0, 1) := by decide +kernel
theorem d_O_fittingWays_11 : decode prog_1_method_67_code 11 = .ok (.getfield 48, 3) := by decide +kernel
theorem d_O_fittingWays_14 : decode prog_1_method_67_code 14 = .ok (.aload_n 0, 1) := by decide +kernel
theorem d_O_fittingWays_15 : decode prog_1_method_67_code 15 = .ok (.getfield 48, 3) := by decide +kernel
theorem d_O_fittingWays_18 : decode prog_1_method_67_code 18 = .ok (.getfield 110, 3) := by decide +kernel
theorem d_O_fittingWays_21 : decode prog_1_method_67_code 21 = .ok (.getfield 169, 3) := by decide +kernel
theorem d_O_fittingWays_24 : decode prog_1_method_67_code 24 = .ok (.iload_n 1, 1) := by decide +kernel
theorem d_O_fittingWays_25 : decode prog_1_method_67_code 25 = .ok (.iaload, 1) := by decide +kernel
theorem d_O_fittingWays_26 : decode prog_1_method_67_code 26 = .ok (.iload_n 3, 1) := by decide +kernel
theorem d_O_fittingWays_27 : decode prog_1_method_67_code 27 = .ok (.invokestatic 230, 3) := by decide +kernel
theorem d_O_fittingWays_30 : decode prog_1_method_67_code 30 = .ok (.invokevirtual 359, 3) := by decide +kernel
theorem d_O_fittingWays_33 : decode prog_1_method_67_code 33 = .ok (.ifCond .eq 9, 3) := by decide +kernel
theorem d_O_fittingWays_36 : decode prog_1_method_67_code 36 = .ok (.iload_n 2, 1) := by decide +kernel
theorem d_O_fittingWays_37 : decode prog_1_method_67_code 37 = .ok (.iconst 1, 1) := by decide +kernel
theorem d_O_fittingWays_38 : decode prog_1_method_67_code 38 = .ok (.iload_n 3, 1) := by decide +kernel
theorem d_O_fittingWays_39 : decode prog_1_method_67_code 39 = .ok (.ishl, 1) := by decide +kernel
theorem d_O_fittingWays_40 : decode prog_1_method_67_code 40 = .ok (.ior, 1) := by decide +kernel
theorem d_O_fittingWays_41 : decode prog_1_method_67_code 41 = .ok (.istore_n 2, 1) := by decide +kernel
theorem d_O_fittingWays_42 : decode prog_1_method_67_code 42 = .ok (.iinc 3 1, 3) := by decide +kernel
theorem d_O_fittingWays_45 : decode prog_1_method_67_code 45 = .ok (.goto (-41), 3) := by decide +kernel
theorem d_O_fittingWays_48 : decode prog_1_method_67_code 48 = .ok (.iload_n 2, 1) := by decide +kernel
theorem d_O_fittingWays_49 : decode prog_1_method_67_code 49 = .ok (.ireturn, 1) := by decide +kernel
theorem d_H_fits_0 : decode prog_2_method_9_code 0 = .ok (.aload_n 0, 1) := by decide +kernel
theorem d_H_fits_1 : decode prog_2_method_9_code 1 = .ok (.getfield 52, 3) := by decide +kernel
theorem d_H_fits_4 : decode prog_2_method_9_code 4 = .ok (.iload_n 1, 1) := by decide +kernel
theorem d_H_fits_5 : decode prog_2_method_9_code 5 = .ok (.iconst (-1), 1) := by decide +kernel
theorem d_H_fits_6 : decode prog_2_method_9_code 6 = .ok (.ixor, 1) := by decide +kernel
theorem d_H_fits_7 : decode prog_2_method_9_code 7 = .ok (.iand, 1) := by decide +kernel
theorem d_H_fits_8 : decode prog_2_method_9_code 8 = .ok (.ifCond .ne 16, 3) := by decide +kernel
theorem d_H_fits_11 : decode prog_2_method_9_code 11 = .ok (.aload_n 0, 1) := by decide +kernel
theorem d_H_fits_12 : decode prog_2_method_9_code 12 = .ok (.getfield 55, 3) := by decide +kernel
theorem d_H_fits_15 : decode prog_2_method_9_code 15 = .ok (.iload_n 1, 1) := by decide +kernel
theorem d_H_fits_16 : decode prog_2_method_9_code 16 = .ok (.iand, 1) := by decide +kernel
theorem d_H_fits_17 : decode prog_2_method_9_code 17 = .ok (.ifCond .ne 7, 3) := by decide +kernel
theorem d_H_fits_20 : decode prog_2_method_9_code 20 = .ok (.iconst 1, 1) := by decide +kernel
theorem d_H_fits_21 : decode prog_2_method_9_code 21 = .ok (.goto 4, 3) := by decide +kernel
theorem d_H_fits_24 : decode prog_2_method_9_code 24 = .ok (.iconst 0, 1) := by decide +kernel
theorem d_H_fits_25 : decode prog_2_method_9_code 25 = .ok (.ireturn, 1) := by decide +kernel
theorem d_O_ways_0 : decode prog_1_method_37_code 0 = .ok (.aload_n 0, 1) := by decide +kernel
theorem d_O_ways_1 : decode prog_1_method_37_code 1 = .ok (.iload_n 1, 1) := by decide +kernel
theorem d_O_ways_2 : decode prog_1_method_37_code 2 = .ok (.invokevirtual 166, 3) := by decide +kernel
theorem d_O_ways_5 : decode prog_1_method_37_code 5 = .ok (.ifCond .eq 11, 3) := by decide +kernel
theorem d_O_ways_8 : decode prog_1_method_37_code 8 = .ok (.aload_n 0, 1) := by decide +kernel
theorem d_O_ways_9 : decode prog_1_method_37_code 9 = .ok (.iload_n 1, 1) := by decide +kernel
theorem d_O_ways_10 : decode prog_1_method_37_code 10 = .ok (.invokevirtual 300, 3) := by decide +kernel
theorem d_O_ways_13 : decode prog_1_method_37_code 13 = .ok (.goto 4, 3) := by decide +kernel
theorem d_O_ways_16 : decode prog_1_method_37_code 16 = .ok (.iconst (-1), 1) := by decide +kernel
theorem d_O_ways_17 : decode prog_1_method_37_code 17 = .ok (.ireturn, 1) := by decide +kernel
theorem d_O_ask_0 : decode prog_1_method_38_code 0 = .ok (.iconst 0, 1) := by decide +kernel
theorem d_O_ask_1 : decode prog_1_method_38_code 1 = .ok (.istore_n 1, 1) := by decide +kernel
theorem d_O_ask_2 : decode prog_1_method_38_code 2 = .ok (.iconst 0, 1) := by decide +kernel
theorem d_O_ask_3 : decode prog_1_method_38_code 3 = .ok (.istore_n 2, 1) := by decide +kernel
theorem d_O_ask_4 : decode prog_1_method_38_code 4 = .ok (.iconst 0, 1) := by decide +kernel
theorem d_O_ask_5 : decode prog_1_method_38_code 5 = .ok (.istore_n 3, 1) := by decide +kernel
theorem d_O_ask_6 : decode prog_1_method_38_code 6 = .ok (.iload_n 3, 1) := by decide +kernel
theorem d_O_ask_7 : decode prog_1_method_38_code 7 = .ok (.aload_n 0, 1) := by decide +kernel
theorem d_O_ask_8 : decode prog_1_method_38_code 8 = .ok (.getfield 48, 3) := by decide +kernel
theorem d_O_ask_11 : decode prog_1_method_38_code 11 = .ok (.getfield 110, 3) := by decide +kernel
theorem d_O_ask_14 : decode prog_1_method_38_code 14 = .ok (.getfield 258, 3) := by decide +kernel
theorem d_O_ask_17 : decode prog_1_method_38_code 17 = .ok (.if_icmp .ge 33, 3) := by decide +kernel
theorem d_O_ask_20 : decode prog_1_method_38_code 20 = .ok (.iload_n 2, 1) := by decide +kernel
theorem d_O_ask_21 : decode prog_1_method_38_code 21 = .ok (.istore 4, 2) := by decide +kernel
theorem d_O_ask_23 : decode prog_1_method_38_code 23 = .ok (.aload_n 0, 1) := by decide +kernel
theorem d_O_ask_24 : decode prog_1_method_38_code 24 = .ok (.iload_n 3, 1) := by decide +kernel
theorem d_O_ask_25 : decode prog_1_method_38_code 25 = .ok (.iload_n 2, 1) := by decide +kernel
theorem d_O_ask_26 : decode prog_1_method_38_code 26 = .ok (.invokevirtual 303, 3) := by decide +kernel
theorem d_O_ask_29 : decode prog_1_method_38_code 29 = .ok (.istore_n 2, 1) := by decide +kernel
theorem d_O_ask_30 : decode prog_1_method_38_code 30 = .ok (.iload_n 1, 1) := by decide +kernel
theorem d_O_ask_31 : decode prog_1_method_38_code 31 = .ok (.iload_n 2, 1) := by decide +kernel
theorem d_O_ask_32 : decode prog_1_method_38_code 32 = .ok (.iload 4, 2) := by decide +kernel
theorem d_O_ask_34 : decode prog_1_method_38_code 34 = .ok (.if_icmp .le 7, 3) := by decide +kernel
theorem d_O_ask_37 : decode prog_1_method_38_code 37 = .ok (.iconst 1, 1) := by decide +kernel
theorem d_O_ask_38 : decode prog_1_method_38_code 38 = .ok (.goto 4, 3) := by decide +kernel
theorem d_O_ask_41 : decode prog_1_method_38_code 41 = .ok (.iconst 0, 1) := by decide +kernel
theorem d_O_ask_42 : decode prog_1_method_38_code 42 = .ok (.iadd, 1) := by decide +kernel
theorem d_O_ask_43 : decode prog_1_method_38_code 43 = .ok (.istore_n 1, 1) := by decide +kernel
theorem d_O_ask_44 : decode prog_1_method_38_code 44 = .ok (.iinc 3 1, 3) := by decide +kernel
theorem d_O_ask_47 : decode prog_1_method_38_code 47 = .ok (.goto (-41), 3) := by decide +kernel
theorem d_O_ask_50 : decode prog_1_method_38_code 50 = .ok (.iload_n 1, 1) := by decide +kernel
theorem d_O_ask_51 : decode prog_1_method_38_code 51 = .ok (.iconst 2, 1) := by decide +kernel
theorem d_O_ask_52 : decode prog_1_method_38_code 52 = .ok (.if_icmp .ge 7, 3) := by decide +kernel
theorem d_O_ask_55 : decode prog_1_method_38_code 55 = .ok (.iconst (-1), 1) := by decide +kernel
theorem d_O_ask_56 : decode prog_1_method_38_code 56 = .ok (.goto 8, 3) := by decide +kernel
theorem d_O_ask_59 : decode prog_1_method_38_code 59 = .ok (.aload_n 0, 1) := by decide +kernel
theorem d_O_ask_60 : decode prog_1_method_38_code 60 = .ok (.iload_n 2, 1) := by decide +kernel
theorem d_O_ask_61 : decode prog_1_method_38_code 61 = .ok (.invokevirtual 306, 3) := by decide +kernel
theorem d_O_ask_64 : decode prog_1_method_38_code 64 = .ok (.ireturn, 1) := by decide +kernel
theorem d_O_gatherFitting_0 : decode prog_1_method_68_code 0 = .ok (.iload_n 2, 1) := by decide +kernel
theorem d_O_gatherFitting_1 : decode prog_1_method_68_code 1 = .ok (.istore_n 3, 1) := by decide +kernel
theorem d_O_gatherFitting_2 : decode prog_1_method_68_code 2 = .ok (.iconst 0, 1) := by decide +kernel
theorem d_O_gatherFitting_3 : decode prog_1_method_68_code 3 = .ok (.istore 4, 2) := by decide +kernel
theorem d_O_gatherFitting_5 : decode prog_1_method_68_code 5 = .ok (.iload 4, 2) := by decide +kernel
theorem d_O_gatherFitting_7 : decode prog_1_method_68_code 7 = .ok (.bipush 8, 2) := by decide +kernel
theorem d_O_gatherFitting_9 : decode prog_1_method_68_code 9 = .ok (.if_icmp .ge 51, 3) := by decide +kernel
theorem d_O_gatherFitting_12 : decode prog_1_method_68_code 12 = .ok (.aload_n 0, 1) := by decide +kernel
theorem d_O_gatherFitting_13 : decode prog_1_method_68_code 13 = .ok (.getfield 48, 3) := by decide +kernel
theorem d_O_gatherFitting_16 : decode prog_1_method_68_code 16 = .ok (.getfield 110, 3) := by decide +kernel
theorem d_O_gatherFitting_19 : decode prog_1_method_68_code 19 = .ok (.getfield 169, 3) := by decide +kernel
theorem d_O_gatherFitting_22 : decode prog_1_method_68_code 22 = .ok (.iload_n 1, 1) := by decide +kernel
theorem d_O_gatherFitting_23 : decode prog_1_method_68_code 23 = .ok (.iaload, 1) := by decide +kernel
theorem d_O_gatherFitting_24 : decode prog_1_method_68_code 24 = .ok (.iload 4, 2) := by decide +kernel
theorem d_O_gatherFitting_26 : decode prog_1_method_68_code 26 = .ok (.invokestatic 230, 3) := by decide +kernel
theorem d_O_gatherFitting_29 : decode prog_1_method_68_code 29 = .ok (.istore 5, 2) := by decide +kernel
theorem d_O_gatherFitting_31 : decode prog_1_method_68_code 31 = .ok (.aload_n 0, 1) := by decide +kernel
theorem d_O_gatherFitting_32 : decode prog_1_method_68_code 32 = .ok (.getfield 48, 3) := by decide +kernel
theorem d_O_gatherFitting_35 : decode prog_1_method_68_code 35 = .ok (.iload 5, 2) := by decide +kernel
theorem d_O_gatherFitting_37 : decode prog_1_method_68_code 37 = .ok (.invokevirtual 359, 3) := by decide +kernel
theorem d_O_gatherFitting_40 : decode prog_1_method_68_code 40 = .ok (.ifCond .eq 14, 3) := by decide +kernel
theorem d_O_gatherFitting_43 : decode prog_1_method_68_code 43 = .ok (.aload_n 0, 1) := by decide +kernel
theorem d_O_gatherFitting_44 : decode prog_1_method_68_code 44 = .ok (.getfield 62, 3) := by decide +kernel
theorem d_O_gatherFitting_47 : decode prog_1_method_68_code 47 = .ok (.iload_n 3, 1) := by decide +kernel
theorem d_O_gatherFitting_48 : decode prog_1_method_68_code 48 = .ok (.iload 5, 2) := by decide +kernel
theorem d_O_gatherFitting_50 : decode prog_1_method_68_code 50 = .ok (.iastore, 1) := by decide +kernel
theorem d_O_gatherFitting_51 : decode prog_1_method_68_code 51 = .ok (.iinc 3 1, 3) := by decide +kernel
theorem d_O_gatherFitting_54 : decode prog_1_method_68_code 54 = .ok (.iinc 4 1, 3) := by decide +kernel
theorem d_O_gatherFitting_57 : decode prog_1_method_68_code 57 = .ok (.goto (-52), 3) := by decide +kernel
theorem d_O_gatherFitting_60 : decode prog_1_method_68_code 60 = .ok (.iload_n 3, 1) := by decide +kernel
theorem d_O_gatherFitting_61 : decode prog_1_method_68_code 61 = .ok (.ireturn, 1) := by decide +kernel
theorem d_O_bestQuestion_0 : decode prog_1_method_69_code 0 = .ok (.iconst (-1), 1) := by decide +kernel
theorem d_O_bestQuestion_1 : decode prog_1_method_69_code 1 = .ok (.istore_n 2, 1) := by decide +kernel
theorem d_O_bestQuestion_2 : decode prog_1_method_69_code 2 = .ok (.iload_n 1, 1) := by decide +kernel
theorem d_O_bestQuestion_3 : decode prog_1_method_69_code 3 = .ok (.iconst 1, 1) := by decide +kernel
theorem d_O_bestQuestion_4 : decode prog_1_method_69_code 4 = .ok (.iadd, 1) := by decide +kernel
theorem d_O_bestQuestion_5 : decode prog_1_method_69_code 5 = .ok (.istore_n 3, 1) := by decide +kernel
theorem d_O_bestQuestion_6 : decode prog_1_method_69_code 6 = .ok (.iconst 0, 1) := by decide +kernel
theorem d_O_bestQuestion_7 : decode prog_1_method_69_code 7 = .ok (.istore 4, 2) := by decide +kernel
theorem d_O_bestQuestion_9 : decode prog_1_method_69_code 9 = .ok (.iload 4, 2) := by decide +kernel
theorem d_O_bestQuestion_11 : decode prog_1_method_69_code 11 = .ok (.bipush 20, 2) := by decide +kernel
theorem d_O_bestQuestion_13 : decode prog_1_method_69_code 13 = .ok (.if_icmp .ge 103, 3) := by decide +kernel
theorem d_O_bestQuestion_16 : decode prog_1_method_69_code 16 = .ok (.iconst 0, 1) := by decide +kernel
theorem d_O_bestQuestion_17 : decode prog_1_method_69_code 17 = .ok (.istore 5, 2) := by decide +kernel
theorem d_O_bestQuestion_19 : decode prog_1_method_69_code 19 = .ok (.iconst 0, 1) := by decide +kernel
theorem d_O_bestQuestion_20 : decode prog_1_method_69_code 20 = .ok (.istore 6, 2) := by decide +kernel
theorem d_O_bestQuestion_22 : decode prog_1_method_69_code 22 = .ok (.iload 6, 2) := by decide +kernel
theorem d_O_bestQuestion_24 : decode prog_1_method_69_code 24 = .ok (.iload_n 1, 1) := by decide +kernel
theorem d_O_bestQuestion_25 : decode prog_1_method_69_code 25 = .ok (.if_icmp .ge 26, 3) := by decide +kernel
theorem d_O_bestQuestion_28 : decode prog_1_method_69_code 28 = .ok (.iload 5, 2) := by decide +kernel
theorem d_O_bestQuestion_30 : decode prog_1_method_69_code 30 = .ok (.aload_n 0, 1) := by decide +kernel
theorem d_O_bestQuestion_31 : decode prog_1_method_69_code 31 = .ok (.getfield 62, 3) := by decide +kernel
theorem d_O_bestQuestion_34 : decode prog_1_method_69_code 34 = .ok (.iload 6, 2) := by decide +kernel
theorem d_O_bestQuestion_36 : decode prog_1_method_69_code 36 = .ok (.iaload, 1) := by decide +kernel
theorem d_O_bestQuestion_37 : decode prog_1_method_69_code 37 = .ok (.iload 4, 2) := by decide +kernel
theorem d_O_bestQuestion_39 : decode prog_1_method_69_code 39 = .ok (.ishr, 1) := by decide +kernel
theorem d_O_bestQuestion_40 : decode prog_1_method_69_code 40 = .ok (.iconst 1, 1) := by decide +kernel
theorem d_O_bestQuestion_41 : decode prog_1_method_69_code 41 = .ok (.iand, 1) := by decide +kernel
theorem d_O_bestQuestion_42 : decode prog_1_method_69_code 42 = .ok (.iadd, 1) := by decide +kernel
theorem d_O_bestQuestion_43 : decode prog_1_method_69_code 43 = .ok (.istore 5, 2) := by decide +kernel
theorem d_O_bestQuestion_45 : decode prog_1_method_69_code 45 = .ok (.iinc 6 1, 3) := by decide +kernel
theorem d_O_bestQuestion_48 : decode prog_1_method_69_code 48 = .ok (.goto (-26), 3) := by decide +kernel
theorem d_O_bestQuestion_51 : decode prog_1_method_69_code 51 = .ok (.iload 5, 2) := by decide +kernel
theorem d_O_bestQuestion_53 : decode prog_1_method_69_code 53 = .ok (.iload_n 1, 1) := by decide +kernel
theorem d_O_bestQuestion_54 : decode prog_1_method_69_code 54 = .ok (.iload 5, 2) := by decide +kernel
theorem d_O_bestQuestion_56 : decode prog_1_method_69_code 56 = .ok (.isub, 1) := by decide +kernel
theorem d_O_bestQuestion_57 : decode prog_1_method_69_code 57 = .ok (.invokestatic 362, 3) := by decide +kernel
theorem d_O_bestQuestion_60 : decode prog_1_method_69_code 60 = .ok (.istore 6, 2) := by decide +kernel
theorem d_O_bestQuestion_62 : decode prog_1_method_69_code 62 = .ok (.aload_n 0, 1) := by decide +kernel
theorem d_O_bestQuestion_63 : decode prog_1_method_69_code 63 = .ok (.getfield 48, 3) := by decide +kernel
theorem d_O_bestQuestion_66 : decode prog_1_method_69_code 66 = .ok (.getfield 291, 3) := by decide +kernel
theorem d_O_bestQuestion_69 : decode prog_1_method_69_code 69 = .ok (.aload_n 0, 1) := by decide +kernel
theorem d_O_bestQuestion_70 : decode prog_1_method_69_code 70 = .ok (.getfield 48, 3) := by decide +kernel
theorem d_O_bestQuestion_73 : decode prog_1_method_69_code 73 = .ok (.getfield 294, 3) := by decide +kernel
theorem d_O_bestQuestion_76 : decode prog_1_method_69_code 76 = .ok (.ior, 1) := by decide +kernel
theorem d_O_bestQuestion_77 : decode prog_1_method_69_code 77 = .ok (.iload 4, 2) := by decide +kernel
theorem d_O_bestQuestion_79 : decode prog_1_method_69_code 79 = .ok (.ishr, 1) := by decide +kernel
theorem d_O_bestQuestion_80 : decode prog_1_method_69_code 80 = .ok (.iconst 1, 1) := by decide +kernel
theorem d_O_bestQuestion_81 : decode prog_1_method_69_code 81 = .ok (.iand, 1) := by decide +kernel
theorem d_O_bestQuestion_82 : decode prog_1_method_69_code 82 = .ok (.iconst 1, 1) := by decide +kernel
theorem d_O_bestQuestion_83 : decode prog_1_method_69_code 83 = .ok (.if_icmp .ne 7, 3) := by decide +kernel
theorem d_O_bestQuestion_86 : decode prog_1_method_69_code 86 = .ok (.iconst 1, 1) := by decide +kernel
theorem d_O_bestQuestion_87 : decode prog_1_method_69_code 87 = .ok (.goto 4, 3) := by decide +kernel
theorem d_O_bestQuestion_90 : decode prog_1_method_69_code 90 = .ok (.iconst 0, 1) := by decide +kernel
theorem d_O_bestQuestion_91 : decode prog_1_method_69_code 91 = .ok (.istore 7, 2) := by decide +kernel
theorem d_O_bestQuestion_93 : decode prog_1_method_69_code 93 = .ok (.iload 7, 2) := by decide +kernel
theorem d_O_bestQuestion_95 : decode prog_1_method_69_code 95 = .ok (.ifCond .ne 15, 3) := by decide +kernel
theorem d_O_bestQuestion_98 : decode prog_1_method_69_code 98 = .ok (.iload 6, 2) := by decide +kernel
theorem d_O_bestQuestion_100 : decode prog_1_method_69_code 100 = .ok (.iload_n 3, 1) := by decide +kernel
theorem d_O_bestQuestion_101 : decode prog_1_method_69_code 101 = .ok (.if_icmp .ge 9, 3) := by decide +kernel
theorem d_O_bestQuestion_104 : decode prog_1_method_69_code 104 = .ok (.iload 6, 2) := by decide +kernel
theorem d_O_bestQuestion_106 : decode prog_1_method_69_code 106 = .ok (.istore_n 3, 1) := by decide +kernel
theorem d_O_bestQuestion_107 : decode prog_1_method_69_code 107 = .ok (.iload 4, 2) := by decide +kernel
theorem d_O_bestQuestion_109 : decode prog_1_method_69_code 109 = .ok (.istore_n 2, 1) := by decide +kernel
theorem d_O_bestQuestion_110 : decode prog_1_method_69_code 110 = .ok (.iinc 4 1, 3) := by decide +kernel
theorem d_O_bestQuestion_113 : decode prog_1_method_69_code 113 = .ok (.goto (-104), 3) := by decide +kernel
theorem d_O_bestQuestion_116 : decode prog_1_method_69_code 116 = .ok (.iload_n 2, 1) := by decide +kernel
theorem d_O_bestQuestion_117 : decode prog_1_method_69_code 117 = .ok (.ireturn, 1) := by decide +kernel
theorem d_O_game_0 : decode prog_1_method_39_code 0 = .ok (.iload_n 1, 1) := by decide +kernel
theorem d_O_game_1 : decode prog_1_method_39_code 1 = .ok (.iload_n 2, 1) := by decide +kernel
theorem d_O_game_2 : decode prog_1_method_39_code 2 = .ok (.invokestatic 309, 3) := by decide +kernel
theorem d_O_game_5 : decode prog_1_method_39_code 5 = .ok (.ifCond .ne 5, 3) := by decide +kernel
theorem d_O_game_8 : decode prog_1_method_39_code 8 = .ok (.iconst (-1), 1) := by decide +kernel
theorem d_O_game_9 : decode prog_1_method_39_code 9 = .ok (.ireturn, 1) := by decide +kernel
theorem d_O_game_10 : decode prog_1_method_39_code 10 = .ok (.iload_n 1, 1) := by decide +kernel
theorem d_O_game_11 : decode prog_1_method_39_code 11 = .ok (.iload_n 2, 1) := by decide +kernel
theorem d_O_game_12 : decode prog_1_method_39_code 12 = .ok (.invokestatic 313, 3) := by decide +kernel
theorem d_O_game_15 : decode prog_1_method_39_code 15 = .ok (.iconst 2, 1) := by decide +kernel
theorem d_O_game_16 : decode prog_1_method_39_code 16 = .ok (.irem, 1) := by decide +kernel
theorem d_O_game_17 : decode prog_1_method_39_code 17 = .ok (.ireturn, 1) := by decide +kernel
theorem d_O_isGame_0 : decode prog_1_method_56_code 0 = .ok (.iload_n 0, 1) := by decide +kernel
theorem d_O_isGame_1 : decode prog_1_method_56_code 1 = .ok (.invokestatic 73, 3) := by decide +kernel
theorem d_O_isGame_4 : decode prog_1_method_56_code 4 = .ok (.ifCond .eq 23, 3) := by decide +kernel
theorem d_O_isGame_7 : decode prog_1_method_56_code 7 = .ok (.iload_n 1, 1) := by decide +kernel
theorem d_O_isGame_8 : decode prog_1_method_56_code 8 = .ok (.invokestatic 73, 3) := by decide +kernel
theorem d_O_isGame_11 : decode prog_1_method_56_code 11 = .ok (.ifCond .eq 16, 3) := by decide +kernel
theorem d_O_isGame_14 : decode prog_1_method_56_code 14 = .ok (.iload_n 1, 1) := by decide +kernel
theorem d_O_isGame_15 : decode prog_1_method_56_code 15 = .ok (.invokestatic 175, 3) := by decide +kernel
theorem d_O_isGame_18 : decode prog_1_method_56_code 18 = .ok (.bipush 10, 2) := by decide +kernel
theorem d_O_isGame_20 : decode prog_1_method_56_code 20 = .ok (.if_icmp .gt 7, 3) := by decide +kernel
theorem d_O_isGame_23 : decode prog_1_method_56_code 23 = .ok (.iconst 1, 1) := by decide +kernel
theorem d_O_isGame_24 : decode prog_1_method_56_code 24 = .ok (.goto 4, 3) := by decide +kernel
theorem d_O_isGame_27 : decode prog_1_method_56_code 27 = .ok (.iconst 0, 1) := by decide +kernel
theorem d_O_isGame_28 : decode prog_1_method_56_code 28 = .ok (.ireturn, 1) := by decide +kernel
theorem d_K_countJoining_0 : decode prog_7_method_19_code 0 = .ok (.iload_n 0, 1) := by decide +kernel
theorem d_K_countJoining_1 : decode prog_7_method_19_code 1 = .ok (.istore_n 2, 1) := by decide +kernel
theorem d_K_countJoining_2 : decode prog_7_method_19_code 2 = .ok (.iconst 0, 1) := by decide +kernel
theorem d_K_countJoining_3 : decode prog_7_method_19_code 3 = .ok (.istore_n 3, 1) := by decide +kernel
theorem d_K_countJoining_4 : decode prog_7_method_19_code 4 = .ok (.iconst 0, 1) := by decide +kernel
theorem d_K_countJoining_5 : decode prog_7_method_19_code 5 = .ok (.istore 4, 2) := by decide +kernel
theorem d_K_countJoining_7 : decode prog_7_method_19_code 7 = .ok (.iload 4, 2) := by decide +kernel
theorem d_K_countJoining_9 : decode prog_7_method_19_code 9 = .ok (.bipush 20, 2) := by decide +kernel
theorem d_K_countJoining_11 : decode prog_7_method_19_code 11 = .ok (.if_icmp .ge 60, 3) := by decide +kernel
theorem d_K_countJoining_14 : decode prog_7_method_19_code 14 = .ok (.iconst 1, 1) := by decide +kernel
theorem d_K_countJoining_15 : decode prog_7_method_19_code 15 = .ok (.iload 4, 2) := by decide +kernel
theorem d_K_countJoining_17 : decode prog_7_method_19_code 17 = .ok (.ishl, 1) := by decide +kernel
theorem d_K_countJoining_18 : decode prog_7_method_19_code 18 = .ok (.istore 5, 2) := by decide +kernel
theorem d_K_countJoining_20 : decode prog_7_method_19_code 20 = .ok (.iload_n 1, 1) := by decide +kernel
theorem d_K_countJoining_21 : decode prog_7_method_19_code 21 = .ok (.iload_n 2, 1) := by decide +kernel
theorem d_K_countJoining_22 : decode prog_7_method_19_code 22 = .ok (.iconst (-1), 1) := by decide +kernel
theorem d_K_countJoining_23 : decode prog_7_method_19_code 23 = .ok (.ixor, 1) := by decide +kernel
theorem d_K_countJoining_24 : decode prog_7_method_19_code 24 = .ok (.iand, 1) := by decide +kernel
theorem d_K_countJoining_25 : decode prog_7_method_19_code 25 = .ok (.iload 5, 2) := by decide +kernel
theorem d_K_countJoining_27 : decode prog_7_method_19_code 27 = .ok (.iand, 1) := by decide +kernel
theorem d_K_countJoining_28 : decode prog_7_method_19_code 28 = .ok (.ifCond .eq 7, 3) := by decide +kernel
theorem d_K_countJoining_31 : decode prog_7_method_19_code 31 = .ok (.iconst 1, 1) := by decide +kernel
theorem d_K_countJoining_32 : decode prog_7_method_19_code 32 = .ok (.goto 4, 3) := by decide +kernel
theorem d_K_countJoining_35 : decode prog_7_method_19_code 35 = .ok (.iconst 0, 1) := by decide +kernel
theorem d_K_countJoining_36 : decode prog_7_method_19_code 36 = .ok (.istore 6, 2) := by decide +kernel
theorem d_K_countJoining_38 : decode prog_7_method_19_code 38 = .ok (.iload 6, 2) := by decide +kernel
theorem d_K_countJoining_40 : decode prog_7_method_19_code 40 = .ok (.ifCond .eq 25, 3) := by decide +kernel
theorem d_K_countJoining_43 : decode prog_7_method_19_code 43 = .ok (.iload_n 2, 1) := by decide +kernel
theorem d_K_countJoining_44 : decode prog_7_method_19_code 44 = .ok (.iload 5, 2) := by decide +kernel
theorem d_K_countJoining_46 : decode prog_7_method_19_code 46 = .ok (.ior, 1) := by decide +kernel
theorem d_K_countJoining_47 : decode prog_7_method_19_code 47 = .ok (.invokestatic 68, 3) := by decide +kernel
theorem d_K_countJoining_50 : decode prog_7_method_19_code 50 = .ok (.iload_n 2, 1) := by decide +kernel
theorem d_K_countJoining_51 : decode prog_7_method_19_code 51 = .ok (.invokestatic 68, 3) := by decide +kernel
theorem d_K_countJoining_54 : decode prog_7_method_19_code 54 = .ok (.if_icmp .ne 11, 3) := by decide +kernel
theorem d_K_countJoining_57 : decode prog_7_method_19_code 57 = .ok (.iload_n 2, 1) := by decide +kernel
theorem d_K_countJoining_58 : decode prog_7_method_19_code 58 = .ok (.iload 5, 2) := by decide +kernel
theorem d_K_countJoining_60 : decode prog_7_method_19_code 60 = .ok (.ior, 1) := by decide +kernel
theorem d_K_countJoining_61 : decode prog_7_method_19_code 61 = .ok (.istore_n 2, 1) := by decide +kernel
theorem d_K_countJoining_62 : decode prog_7_method_19_code 62 = .ok (.iinc 3 1, 3) := by decide +kernel
theorem d_K_countJoining_65 : decode prog_7_method_19_code 65 = .ok (.iinc 4 1, 3) := by decide +kernel
theorem d_K_countJoining_68 : decode prog_7_method_19_code 68 = .ok (.goto (-61), 3) := by decide +kernel
theorem d_K_countJoining_71 : decode prog_7_method_19_code 71 = .ok (.iload_n 3, 1) := by decide +kernel
theorem d_K_countJoining_72 : decode prog_7_method_19_code 72 = .ok (.ireturn, 1) := by decide +kernel
theorem d_O_play_0 : decode prog_1_method_40_code 0 = .ok (.iload_n 1, 1) := by decide +kernel
theorem d_O_play_1 : decode prog_1_method_40_code 1 = .ok (.iload_n 2, 1) := by decide +kernel
theorem d_O_play_2 : decode prog_1_method_40_code 2 = .ok (.invokestatic 309, 3) := by decide +kernel
theorem d_O_play_5 : decode prog_1_method_40_code 5 = .ok (.ifCond .eq 13, 3) := by decide +kernel
theorem d_O_play_8 : decode prog_1_method_40_code 8 = .ok (.iload_n 1, 1) := by decide +kernel
theorem d_O_play_9 : decode prog_1_method_40_code 9 = .ok (.iload_n 2, 1) := by decide +kernel
theorem d_O_play_10 : decode prog_1_method_40_code 10 = .ok (.invokestatic 313, 3) := by decide +kernel
theorem d_O_play_13 : decode prog_1_method_40_code 13 = .ok (.iconst 2, 1) := by decide +kernel
theorem d_O_play_14 : decode prog_1_method_40_code 14 = .ok (.irem, 1) := by decide +kernel
theorem d_O_play_15 : decode prog_1_method_40_code 15 = .ok (.ifCond .ne 5, 3) := by decide +kernel
theorem d_O_play_18 : decode prog_1_method_40_code 18 = .ok (.iconst (-1), 1) := by decide +kernel
theorem d_O_play_19 : decode prog_1_method_40_code 19 = .ok (.ireturn, 1) := by decide +kernel
theorem d_O_play_20 : decode prog_1_method_40_code 20 = .ok (.iconst 0, 1) := by decide +kernel
theorem d_O_play_21 : decode prog_1_method_40_code 21 = .ok (.istore_n 3, 1) := by decide +kernel
theorem d_O_play_22 : decode prog_1_method_40_code 22 = .ok (.iload_n 3, 1) := by decide +kernel
theorem d_O_play_23 : decode prog_1_method_40_code 23 = .ok (.bipush 20, 2) := by decide +kernel
theorem d_O_play_25 : decode prog_1_method_40_code 25 = .ok (.if_icmp .ge 33, 3) := by decide +kernel
theorem d_O_play_28 : decode prog_1_method_40_code 28 = .ok (.iconst 1, 1) := by decide +kernel
theorem d_O_play_29 : decode prog_1_method_40_code 29 = .ok (.iload_n 3, 1) := by decide +kernel
theorem d_O_play_30 : decode prog_1_method_40_code 30 = .ok (.ishl, 1) := by decide +kernel
theorem d_O_play_31 : decode prog_1_method_40_code 31 = .ok (.istore 4, 2) := by decide +kernel
theorem d_O_play_33 : decode prog_1_method_40_code 33 = .ok (.iload_n 2, 1) := by decide +kernel
theorem d_O_play_34 : decode prog_1_method_40_code 34 = .ok (.iload 4, 2) := by decide +kernel
theorem d_O_play_36 : decode prog_1_method_40_code 36 = .ok (.iand, 1) := by decide +kernel
theorem d_O_play_37 : decode prog_1_method_40_code 37 = .ok (.ifCond .eq 15, 3) := by decide +kernel
theorem d_O_play_40 : decode prog_1_method_40_code 40 = .ok (.iload_n 1, 1) := by decide +kernel
theorem d_O_play_41 : decode prog_1_method_40_code 41 = .ok (.iload 4, 2) := by decide +kernel
theorem d_O_play_43 : decode prog_1_method_40_code 43 = .ok (.invokestatic 313, 3) := by decide +kernel
theorem d_O_play_46 : decode prog_1_method_40_code 46 = .ok (.iconst 1, 1) := by decide +kernel
theorem d_O_play_47 : decode prog_1_method_40_code 47 = .ok (.if_icmp .ne 5, 3) := by decide +kernel
theorem d_O_play_50 : decode prog_1_method_40_code 50 = .ok (.iload_n 3, 1) := by decide +kernel
theorem d_O_play_51 : decode prog_1_method_40_code 51 = .ok (.ireturn, 1) := by decide +kernel
theorem d_O_play_52 : decode prog_1_method_40_code 52 = .ok (.iinc 3 1, 3) := by decide +kernel
theorem d_O_play_55 : decode prog_1_method_40_code 55 = .ok (.goto (-33), 3) := by decide +kernel
theorem d_O_play_58 : decode prog_1_method_40_code 58 = .ok (.iconst (-1), 1) := by decide +kernel
theorem d_O_play_59 : decode prog_1_method_40_code 59 = .ok (.ireturn, 1) := by decide +kernel
theorem d_O_apart_0 : decode prog_1_method_41_code 0 = .ok (.iload_n 1, 1) := by decide +kernel
theorem d_O_apart_1 : decode prog_1_method_41_code 1 = .ok (.ifCond .lt 18, 3) := by decide +kernel
theorem d_O_apart_4 : decode prog_1_method_41_code 4 = .ok (.iload_n 1, 1) := by decide +kernel
theorem d_O_apart_5 : decode prog_1_method_41_code 5 = .ok (.iconst 4, 1) := by decide +kernel
theorem d_O_apart_6 : decode prog_1_method_41_code 6 = .ok (.if_icmp .gt 13, 3) := by decide +kernel
theorem d_O_apart_9 : decode prog_1_method_41_code 9 = .ok (.iload_n 2, 1) := by decide +kernel
theorem d_O_apart_10 : decode prog_1_method_41_code 10 = .ok (.ifCond .lt 9, 3) := by decide +kernel
theorem d_O_apart_13 : decode prog_1_method_41_code 13 = .ok (.iload_n 2, 1) := by decide +kernel
theorem d_O_apart_14 : decode prog_1_method_41_code 14 = .ok (.bipush 20, 2) := by decide +kernel
theorem d_O_apart_16 : decode prog_1_method_41_code 16 = .ok (.if_icmp .le 5, 3) := by decide +kernel
theorem d_O_apart_19 : decode prog_1_method_41_code 19 = .ok (.iconst (-1), 1) := by decide +kernel
theorem d_O_apart_20 : decode prog_1_method_41_code 20 = .ok (.ireturn, 1) := by decide +kernel
theorem d_O_apart_21 : decode prog_1_method_41_code 21 = .ok (.aload_n 0, 1) := by decide +kernel
theorem d_O_apart_22 : decode prog_1_method_41_code 22 = .ok (.aload_n 0, 1) := by decide +kernel
theorem d_O_apart_23 : decode prog_1_method_41_code 23 = .ok (.getfield 48, 3) := by decide +kernel
theorem d_O_apart_26 : decode prog_1_method_41_code 26 = .ok (.getfield 172, 3) := by decide +kernel
theorem d_O_apart_29 : decode prog_1_method_41_code 29 = .ok (.invokevirtual 267, 3) := by decide +kernel
theorem d_O_apart_32 : decode prog_1_method_41_code 32 = .ok (.istore_n 3, 1) := by decide +kernel
theorem d_O_apart_33 : decode prog_1_method_41_code 33 = .ok (.iload_n 1, 1) := by decide +kernel
theorem d_O_apart_34 : decode prog_1_method_41_code 34 = .ok (.invokestatic 271, 3) := by decide +kernel
theorem d_O_apart_37 : decode prog_1_method_41_code 37 = .ok (.istore 4, 2) := by decide +kernel
theorem d_O_apart_39 : decode prog_1_method_41_code 39 = .ok (.iload_n 1, 1) := by decide +kernel
theorem d_O_apart_40 : decode prog_1_method_41_code 40 = .ok (.invokestatic 274, 3) := by decide +kernel
theorem d_O_apart_43 : decode prog_1_method_41_code 43 = .ok (.istore 5, 2) := by decide +kernel
theorem d_O_apart_45 : decode prog_1_method_41_code 45 = .ok (.iconst 0, 1) := by decide +kernel
theorem d_O_apart_46 : decode prog_1_method_41_code 46 = .ok (.istore 6, 2) := by decide +kernel
theorem d_O_apart_48 : decode prog_1_method_41_code 48 = .ok (.iconst 0, 1) := by decide +kernel
theorem d_O_apart_49 : decode prog_1_method_41_code 49 = .ok (.istore 7, 2) := by decide +kernel
theorem d_O_apart_51 : decode prog_1_method_41_code 51 = .ok (.iload 7, 2) := by decide +kernel
theorem d_O_apart_53 : decode prog_1_method_41_code 53 = .ok (.iload 4, 2) := by decide +kernel
theorem d_O_apart_55 : decode prog_1_method_41_code 55 = .ok (.if_icmp .ge 37, 3) := by decide +kernel
theorem d_O_apart_58 : decode prog_1_method_41_code 58 = .ok (.iload 6, 2) := by decide +kernel
theorem d_O_apart_60 : decode prog_1_method_41_code 60 = .ok (.aload_n 0, 1) := by decide +kernel
theorem d_O_apart_61 : decode prog_1_method_41_code 61 = .ok (.iload_n 3, 1) := by decide +kernel
theorem d_O_apart_62 : decode prog_1_method_41_code 62 = .ok (.iload 5, 2) := by decide +kernel
theorem d_O_apart_64 : decode prog_1_method_41_code 64 = .ok (.iload_n 2, 1) := by decide +kernel
theorem d_O_apart_65 : decode prog_1_method_41_code 65 = .ok (.invokevirtual 316, 3) := by decide +kernel
theorem d_O_apart_68 : decode prog_1_method_41_code 68 = .ok (.ifCond .eq 7, 3) := by decide +kernel
theorem d_O_apart_71 : decode prog_1_method_41_code 71 = .ok (.iconst 1, 1) := by decide +kernel
theorem d_O_apart_72 : decode prog_1_method_41_code 72 = .ok (.goto 4, 3) := by decide +kernel
theorem d_O_apart_75 : decode prog_1_method_41_code 75 = .ok (.iconst 0, 1) := by decide +kernel
theorem d_O_apart_76 : decode prog_1_method_41_code 76 = .ok (.iadd, 1) := by decide +kernel
theorem d_O_apart_77 : decode prog_1_method_41_code 77 = .ok (.istore 6, 2) := by decide +kernel
theorem d_O_apart_79 : decode prog_1_method_41_code 79 = .ok (.iload 5, 2) := by decide +kernel
theorem d_O_apart_81 : decode prog_1_method_41_code 81 = .ok (.invokestatic 280, 3) := by decide +kernel
theorem d_O_apart_84 : decode prog_1_method_41_code 84 = .ok (.istore 5, 2) := by decide +kernel
theorem d_O_apart_86 : decode prog_1_method_41_code 86 = .ok (.iinc 7 1, 3) := by decide +kernel
theorem d_O_apart_89 : decode prog_1_method_41_code 89 = .ok (.goto (-38), 3) := by decide +kernel
theorem d_O_apart_92 : decode prog_1_method_41_code 92 = .ok (.iload 6, 2) := by decide +kernel
theorem d_O_apart_94 : decode prog_1_method_41_code 94 = .ok (.ireturn, 1) := by decide +kernel
theorem d_O_isApartFrom_0 : decode prog_1_method_66_code 0 = .ok (.iconst 0, 1) := by decide +kernel
theorem d_O_isApartFrom_1 : decode prog_1_method_66_code 1 = .ok (.istore 4, 2) := by decide +kernel
theorem d_O_isApartFrom_3 : decode prog_1_method_66_code 3 = .ok (.iload 4, 2) := by decide +kernel
theorem d_O_isApartFrom_5 : decode prog_1_method_66_code 5 = .ok (.iload_n 1, 1) := by decide +kernel
theorem d_O_isApartFrom_6 : decode prog_1_method_66_code 6 = .ok (.if_icmp .ge 27, 3) := by decide +kernel
theorem d_O_isApartFrom_9 : decode prog_1_method_66_code 9 = .ok (.iload_n 2, 1) := by decide +kernel
theorem d_O_isApartFrom_10 : decode prog_1_method_66_code 10 = .ok (.aload_n 0, 1) := by decide +kernel
theorem d_O_isApartFrom_11 : decode prog_1_method_66_code 11 = .ok (.getfield 62, 3) := by decide +kernel
theorem d_O_isApartFrom_14 : decode prog_1_method_66_code 14 = .ok (.iload 4, 2) := by decide +kernel
theorem d_O_isApartFrom_16 : decode prog_1_method_66_code 16 = .ok (.iaload, 1) := by decide +kernel
theorem d_O_isApartFrom_17 : decode prog_1_method_66_code 17 = .ok (.ixor, 1) := by decide +kernel
theorem d_O_isApartFrom_18 : decode prog_1_method_66_code 18 = .ok (.invokestatic 175, 3) := by decide +kernel
theorem d_O_isApartFrom_21 : decode prog_1_method_66_code 21 = .ok (.iload_n 3, 1) := by decide +kernel
theorem d_O_isApartFrom_22 : decode prog_1_method_66_code 22 = .ok (.if_icmp .ge 5, 3) := by decide +kernel
theorem d_O_isApartFrom_25 : decode prog_1_method_66_code 25 = .ok (.iconst 0, 1) := by decide +kernel
theorem d_O_isApartFrom_26 : decode prog_1_method_66_code 26 = .ok (.ireturn, 1) := by decide +kernel
theorem d_O_isApartFrom_27 : decode prog_1_method_66_code 27 = .ok (.iinc 4 1, 3) := by decide +kernel
theorem d_O_isApartFrom_30 : decode prog_1_method_66_code 30 = .ok (.goto (-27), 3) := by decide +kernel
theorem d_O_isApartFrom_33 : decode prog_1_method_66_code 33 = .ok (.iconst 1, 1) := by decide +kernel
theorem d_O_isApartFrom_34 : decode prog_1_method_66_code 34 = .ok (.ireturn, 1) := by decide +kernel
theorem d_O_said_0 : decode prog_1_method_42_code 0 = .ok (.iload_n 1, 1) := by decide +kernel
theorem d_O_said_1 : decode prog_1_method_42_code 1 = .ok (.iconst (-1), 1) := by decide +kernel
theorem d_O_said_2 : decode prog_1_method_42_code 2 = .ok (.if_icmp .ne 13, 3) := by decide +kernel
theorem d_O_said_5 : decode prog_1_method_42_code 5 = .ok (.aload_n 0, 1) := by decide +kernel
theorem d_O_said_6 : decode prog_1_method_42_code 6 = .ok (.getfield 48, 3) := by decide +kernel
theorem d_O_said_9 : decode prog_1_method_42_code 9 = .ok (.iconst 0, 1) := by decide +kernel
theorem d_O_said_10 : decode prog_1_method_42_code 10 = .ok (.putfield 319, 3) := by decide +kernel
theorem d_O_said_13 : decode prog_1_method_42_code 13 = .ok (.iconst 0, 1) := by decide +kernel
theorem d_O_said_14 : decode prog_1_method_42_code 14 = .ok (.ireturn, 1) := by decide +kernel
theorem d_O_said_15 : decode prog_1_method_42_code 15 = .ok (.aload_n 0, 1) := by decide +kernel
theorem d_O_said_16 : decode prog_1_method_42_code 16 = .ok (.iload_n 1, 1) := by decide +kernel
theorem d_O_said_17 : decode prog_1_method_42_code 17 = .ok (.invokevirtual 166, 3) := by decide +kernel
theorem d_O_said_20 : decode prog_1_method_42_code 20 = .ok (.ifCond .eq 24, 3) := by decide +kernel
theorem d_O_said_23 : decode prog_1_method_42_code 23 = .ok (.iload_n 2, 1) := by decide +kernel
theorem d_O_said_24 : decode prog_1_method_42_code 24 = .ok (.invokestatic 198, 3) := by decide +kernel
theorem d_O_said_27 : decode prog_1_method_42_code 27 = .ok (.ifCond .eq 17, 3) := by decide +kernel
theorem d_O_said_30 : decode prog_1_method_42_code 30 = .ok (.iload_n 3, 1) := by decide +kernel
theorem d_O_said_31 : decode prog_1_method_42_code 31 = .ok (.ifCond .lt 13, 3) := by decide +kernel
theorem d_O_said_34 : decode prog_1_method_42_code 34 = .ok (.iload_n 3, 1) := by decide +kernel
theorem d_O_said_35 : decode prog_1_method_42_code 35 = .ok (.bipush 10, 2) := by decide +kernel
theorem d_O_said_37 : decode prog_1_method_42_code 37 = .ok (.if_icmp .gt 7, 3) := by decide +kernel
theorem d_O_said_40 : decode prog_1_method_42_code 40 = .ok (.iconst 1, 1) := by decide +kernel
theorem d_O_said_41 : decode prog_1_method_42_code 41 = .ok (.goto 4, 3) := by decide +kernel
theorem d_O_said_44 : decode prog_1_method_42_code 44 = .ok (.iconst 0, 1) := by decide +kernel
theorem d_O_said_45 : decode prog_1_method_42_code 45 = .ok (.istore 4, 2) := by decide +kernel
theorem d_O_said_47 : decode prog_1_method_42_code 47 = .ok (.iload 4, 2) := by decide +kernel
theorem d_O_said_49 : decode prog_1_method_42_code 49 = .ok (.ifCond .eq 15, 3) := by decide +kernel
theorem d_O_said_52 : decode prog_1_method_42_code 52 = .ok (.aload_n 0, 1) := by decide +kernel
theorem d_O_said_53 : decode prog_1_method_42_code 53 = .ok (.getfield 48, 3) := by decide +kernel
theorem d_O_said_56 : decode prog_1_method_42_code 56 = .ok (.getfield 319, 3) := by decide +kernel
theorem d_O_said_59 : decode prog_1_method_42_code 59 = .ok (.bipush 8, 2) := by decide +kernel
theorem d_O_said_61 : decode prog_1_method_42_code 61 = .ok (.if_icmp .lt 6, 3) := by decide +kernel
theorem d_O_said_64 : decode prog_1_method_42_code 64 = .ok (.bipush (-2), 2) := by decide +kernel
theorem d_O_said_66 : decode prog_1_method_42_code 66 = .ok (.ireturn, 1) := by decide +kernel
theorem d_O_said_67 : decode prog_1_method_42_code 67 = .ok (.aload_n 0, 1) := by decide +kernel
theorem d_O_said_68 : decode prog_1_method_42_code 68 = .ok (.getfield 48, 3) := by decide +kernel
theorem d_O_said_71 : decode prog_1_method_42_code 71 = .ok (.getfield 322, 3) := by decide +kernel
theorem d_O_said_74 : decode prog_1_method_42_code 74 = .ok (.aload_n 0, 1) := by decide +kernel
theorem d_O_said_75 : decode prog_1_method_42_code 75 = .ok (.getfield 48, 3) := by decide +kernel
theorem d_O_said_78 : decode prog_1_method_42_code 78 = .ok (.getfield 319, 3) := by decide +kernel
theorem d_O_said_81 : decode prog_1_method_42_code 81 = .ok (.iload_n 1, 1) := by decide +kernel
theorem d_O_said_82 : decode prog_1_method_42_code 82 = .ok (.iastore, 1) := by decide +kernel
theorem d_O_said_83 : decode prog_1_method_42_code 83 = .ok (.aload_n 0, 1) := by decide +kernel
theorem d_O_said_84 : decode prog_1_method_42_code 84 = .ok (.getfield 48, 3) := by decide +kernel
theorem d_O_said_87 : decode prog_1_method_42_code 87 = .ok (.getfield 325, 3) := by decide +kernel
theorem d_O_said_90 : decode prog_1_method_42_code 90 = .ok (.aload_n 0, 1) := by decide +kernel
theorem d_O_said_91 : decode prog_1_method_42_code 91 = .ok (.getfield 48, 3) := by decide +kernel
theorem d_O_said_94 : decode prog_1_method_42_code 94 = .ok (.getfield 319, 3) := by decide +kernel
theorem d_O_said_97 : decode prog_1_method_42_code 97 = .ok (.iload_n 2, 1) := by decide +kernel
theorem d_O_said_98 : decode prog_1_method_42_code 98 = .ok (.iastore, 1) := by decide +kernel
theorem d_O_said_99 : decode prog_1_method_42_code 99 = .ok (.aload_n 0, 1) := by decide +kernel
theorem d_O_said_100 : decode prog_1_method_42_code 100 = .ok (.getfield 48, 3) := by decide +kernel
theorem d_O_said_103 : decode prog_1_method_42_code 103 = .ok (.getfield 328, 3) := by decide +kernel
theorem d_O_said_106 : decode prog_1_method_42_code 106 = .ok (.aload_n 0, 1) := by decide +kernel
theorem d_O_said_107 : decode prog_1_method_42_code 107 = .ok (.getfield 48, 3) := by decide +kernel
theorem d_O_said_110 : decode prog_1_method_42_code 110 = .ok (.getfield 319, 3) := by decide +kernel
theorem d_O_said_113 : decode prog_1_method_42_code 113 = .ok (.iload_n 3, 1) := by decide +kernel
theorem d_O_said_114 : decode prog_1_method_42_code 114 = .ok (.iastore, 1) := by decide +kernel
theorem d_O_said_115 : decode prog_1_method_42_code 115 = .ok (.aload_n 0, 1) := by decide +kernel
theorem d_O_said_116 : decode prog_1_method_42_code 116 = .ok (.getfield 48, 3) := by decide +kernel
theorem d_O_said_119 : decode prog_1_method_42_code 119 = .ok (.dup, 1) := by decide +kernel
theorem d_O_said_120 : decode prog_1_method_42_code 120 = .ok (.getfield 319, 3) := by decide +kernel
theorem d_O_said_123 : decode prog_1_method_42_code 123 = .ok (.iconst 1, 1) := by decide +kernel
theorem d_O_said_124 : decode prog_1_method_42_code 124 = .ok (.iadd, 1) := by decide +kernel
theorem d_O_said_125 : decode prog_1_method_42_code 125 = .ok (.putfield 319, 3) := by decide +kernel
theorem d_O_said_128 : decode prog_1_method_42_code 128 = .ok (.aload_n 0, 1) := by decide +kernel
theorem d_O_said_129 : decode prog_1_method_42_code 129 = .ok (.getfield 48, 3) := by decide +kernel
theorem d_O_said_132 : decode prog_1_method_42_code 132 = .ok (.getfield 319, 3) := by decide +kernel
theorem d_O_said_135 : decode prog_1_method_42_code 135 = .ok (.ireturn, 1) := by decide +kernel
theorem d_O_whose_0 : decode prog_1_method_43_code 0 = .ok (.iconst 0, 1) := by decide +kernel
theorem d_O_whose_1 : decode prog_1_method_43_code 1 = .ok (.istore_n 1, 1) := by decide +kernel
theorem d_O_whose_2 : decode prog_1_method_43_code 2 = .ok (.iconst 0, 1) := by decide +kernel
theorem d_O_whose_3 : decode prog_1_method_43_code 3 = .ok (.istore_n 2, 1) := by decide +kernel
theorem d_O_whose_4 : decode prog_1_method_43_code 4 = .ok (.iload_n 2, 1) := by decide +kernel
theorem d_O_whose_5 : decode prog_1_method_43_code 5 = .ok (.aload_n 0, 1) := by decide +kernel
theorem d_O_whose_6 : decode prog_1_method_43_code 6 = .ok (.getfield 48, 3) := by decide +kernel
theorem d_O_whose_9 : decode prog_1_method_43_code 9 = .ok (.getfield 85, 3) := by decide +kernel
theorem d_O_whose_12 : decode prog_1_method_43_code 12 = .ok (.if_icmp .ge 28, 3) := by decide +kernel
theorem d_O_whose_15 : decode prog_1_method_43_code 15 = .ok (.aload_n 0, 1) := by decide +kernel
theorem d_O_whose_16 : decode prog_1_method_43_code 16 = .ok (.aload_n 0, 1) := by decide +kernel
theorem d_O_whose_17 : decode prog_1_method_43_code 17 = .ok (.getfield 25, 3) := by decide +kernel
theorem d_O_whose_20 : decode prog_1_method_43_code 20 = .ok (.iload_n 2, 1) := by decide +kernel
theorem d_O_whose_21 : decode prog_1_method_43_code 21 = .ok (.aaload, 1) := by decide +kernel
theorem d_O_whose_22 : decode prog_1_method_43_code 22 = .ok (.invokevirtual 331, 3) := by decide +kernel
theorem d_O_whose_25 : decode prog_1_method_43_code 25 = .ok (.ifCond .eq 9, 3) := by decide +kernel
theorem d_O_whose_28 : decode prog_1_method_43_code 28 = .ok (.iload_n 1, 1) := by decide +kernel
theorem d_O_whose_29 : decode prog_1_method_43_code 29 = .ok (.iconst 1, 1) := by decide +kernel
theorem d_O_whose_30 : decode prog_1_method_43_code 30 = .ok (.iload_n 2, 1) := by decide +kernel
theorem d_O_whose_31 : decode prog_1_method_43_code 31 = .ok (.ishl, 1) := by decide +kernel
theorem d_O_whose_32 : decode prog_1_method_43_code 32 = .ok (.ior, 1) := by decide +kernel
theorem d_O_whose_33 : decode prog_1_method_43_code 33 = .ok (.istore_n 1, 1) := by decide +kernel
theorem d_O_whose_34 : decode prog_1_method_43_code 34 = .ok (.iinc 2 1, 3) := by decide +kernel
theorem d_O_whose_37 : decode prog_1_method_43_code 37 = .ok (.goto (-33), 3) := by decide +kernel
theorem d_O_whose_40 : decode prog_1_method_43_code 40 = .ok (.iload_n 1, 1) := by decide +kernel
theorem d_O_whose_41 : decode prog_1_method_43_code 41 = .ok (.ireturn, 1) := by decide +kernel
theorem d_O_agrees_0 : decode prog_1_method_70_code 0 = .ok (.iconst 0, 1) := by decide +kernel
theorem d_O_agrees_1 : decode prog_1_method_70_code 1 = .ok (.istore_n 2, 1) := by decide +kernel
theorem d_O_agrees_2 : decode prog_1_method_70_code 2 = .ok (.iload_n 2, 1) := by decide +kernel
theorem d_O_agrees_3 : decode prog_1_method_70_code 3 = .ok (.aload_n 0, 1) := by decide +kernel
theorem d_O_agrees_4 : decode prog_1_method_70_code 4 = .ok (.getfield 48, 3) := by decide +kernel
theorem d_O_agrees_7 : decode prog_1_method_70_code 7 = .ok (.getfield 319, 3) := by decide +kernel
theorem d_O_agrees_10 : decode prog_1_method_70_code 10 = .ok (.if_icmp .ge 58, 3) := by decide +kernel
theorem d_O_agrees_13 : decode prog_1_method_70_code 13 = .ok (.aload_n 0, 1) := by decide +kernel
theorem d_O_agrees_14 : decode prog_1_method_70_code 14 = .ok (.getfield 41, 3) := by decide +kernel
theorem d_O_agrees_17 : decode prog_1_method_70_code 17 = .ok (.aload_n 1, 1) := by decide +kernel
theorem d_O_agrees_18 : decode prog_1_method_70_code 18 = .ok (.aload_n 0, 1) := by decide +kernel
theorem d_O_agrees_19 : decode prog_1_method_70_code 19 = .ok (.getfield 48, 3) := by decide +kernel
theorem d_O_agrees_22 : decode prog_1_method_70_code 22 = .ok (.getfield 110, 3) := by decide +kernel
theorem d_O_agrees_25 : decode prog_1_method_70_code 25 = .ok (.aload_n 0, 1) := by decide +kernel
theorem d_O_agrees_26 : decode prog_1_method_70_code 26 = .ok (.getfield 48, 3) := by decide +kernel
theorem d_O_agrees_29 : decode prog_1_method_70_code 29 = .ok (.getfield 322, 3) := by decide +kernel
theorem d_O_agrees_32 : decode prog_1_method_70_code 32 = .ok (.iload_n 2, 1) := by decide +kernel
theorem d_O_agrees_33 : decode prog_1_method_70_code 33 = .ok (.iaload, 1) := by decide +kernel
theorem d_O_agrees_34 : decode prog_1_method_70_code 34 = .ok (.aload_n 0, 1) := by decide +kernel
theorem d_O_agrees_35 : decode prog_1_method_70_code 35 = .ok (.getfield 48, 3) := by decide +kernel
theorem d_O_agrees_38 : decode prog_1_method_70_code 38 = .ok (.getfield 325, 3) := by decide +kernel
theorem d_O_agrees_41 : decode prog_1_method_70_code 41 = .ok (.iload_n 2, 1) := by decide +kernel
theorem d_O_agrees_42 : decode prog_1_method_70_code 42 = .ok (.iaload, 1) := by decide +kernel
theorem d_O_agrees_43 : decode prog_1_method_70_code 43 = .ok (.invokevirtual 201, 3) := by decide +kernel
theorem d_O_agrees_46 : decode prog_1_method_70_code 46 = .ok (.istore_n 3, 1) := by decide +kernel
theorem d_O_agrees_47 : decode prog_1_method_70_code 47 = .ok (.iload_n 3, 1) := by decide +kernel
theorem d_O_agrees_48 : decode prog_1_method_70_code 48 = .ok (.aload_n 0, 1) := by decide +kernel
theorem d_O_agrees_49 : decode prog_1_method_70_code 49 = .ok (.getfield 48, 3) := by decide +kernel
theorem d_O_agrees_52 : decode prog_1_method_70_code 52 = .ok (.getfield 328, 3) := by decide +kernel
theorem d_O_agrees_55 : decode prog_1_method_70_code 55 = .ok (.iload_n 2, 1) := by decide +kernel
theorem d_O_agrees_56 : decode prog_1_method_70_code 56 = .ok (.iaload, 1) := by decide +kernel
theorem d_O_agrees_57 : decode prog_1_method_70_code 57 = .ok (.if_icmp .eq 5, 3) := by decide +kernel
theorem d_O_agrees_60 : decode prog_1_method_70_code 60 = .ok (.iconst 0, 1) := by decide +kernel
theorem d_O_agrees_61 : decode prog_1_method_70_code 61 = .ok (.ireturn, 1) := by decide +kernel
theorem d_O_agrees_62 : decode prog_1_method_70_code 62 = .ok (.iinc 2 1, 3) := by decide +kernel
theorem d_O_agrees_65 : decode prog_1_method_70_code 65 = .ok (.goto (-63), 3) := by decide +kernel
theorem d_O_agrees_68 : decode prog_1_method_70_code 68 = .ok (.iconst 1, 1) := by decide +kernel
theorem d_O_agrees_69 : decode prog_1_method_70_code 69 = .ok (.ireturn, 1) := by decide +kernel
theorem d_O_richest_0 : decode prog_1_method_44_code 0 = .ok (.iconst (-1), 1) := by decide +kernel
theorem d_O_richest_1 : decode prog_1_method_44_code 1 = .ok (.istore_n 1, 1) := by decide +kernel
theorem d_O_richest_2 : decode prog_1_method_44_code 2 = .ok (.iconst 0, 1) := by decide +kernel
theorem d_O_richest_3 : decode prog_1_method_44_code 3 = .ok (.istore_n 2, 1) := by decide +kernel
theorem d_O_richest_4 : decode prog_1_method_44_code 4 = .ok (.iconst 0, 1) := by decide +kernel
theorem d_O_richest_5 : decode prog_1_method_44_code 5 = .ok (.istore_n 3, 1) := by decide +kernel
theorem d_O_richest_6 : decode prog_1_method_44_code 6 = .ok (.iload_n 3, 1) := by decide +kernel
theorem d_O_richest_7 : decode prog_1_method_44_code 7 = .ok (.aload_n 0, 1) := by decide +kernel
theorem d_O_richest_8 : decode prog_1_method_44_code 8 = .ok (.getfield 48, 3) := by decide +kernel
theorem d_O_richest_11 : decode prog_1_method_44_code 11 = .ok (.getfield 110, 3) := by decide +kernel
theorem d_O_richest_14 : decode prog_1_method_44_code 14 = .ok (.getfield 258, 3) := by decide +kernel
theorem d_O_richest_17 : decode prog_1_method_44_code 17 = .ok (.if_icmp .ge 41, 3) := by decide +kernel
theorem d_O_richest_20 : decode prog_1_method_44_code 20 = .ok (.aload_n 0, 1) := by decide +kernel
theorem d_O_richest_21 : decode prog_1_method_44_code 21 = .ok (.getfield 41, 3) := by decide +kernel
theorem d_O_richest_24 : decode prog_1_method_44_code 24 = .ok (.aload_n 0, 1) := by decide +kernel
theorem d_O_richest_25 : decode prog_1_method_44_code 25 = .ok (.invokevirtual 155, 3) := by decide +kernel
theorem d_O_richest_28 : decode prog_1_method_44_code 28 = .ok (.aload_n 0, 1) := by decide +kernel
theorem d_O_richest_29 : decode prog_1_method_44_code 29 = .ok (.getfield 48, 3) := by decide +kernel
theorem d_O_richest_32 : decode prog_1_method_44_code 32 = .ok (.getfield 110, 3) := by decide +kernel
theorem d_O_richest_35 : decode prog_1_method_44_code 35 = .ok (.iload_n 3, 1) := by decide +kernel
theorem d_O_richest_36 : decode prog_1_method_44_code 36 = .ok (.invokevirtual 194, 3) := by decide +kernel
theorem d_O_richest_39 : decode prog_1_method_44_code 39 = .ok (.istore 4, 2) := by decide +kernel
theorem d_O_richest_41 : decode prog_1_method_44_code 41 = .ok (.iload 4, 2) := by decide +kernel
theorem d_O_richest_43 : decode prog_1_method_44_code 43 = .ok (.iload_n 2, 1) := by decide +kernel
theorem d_O_richest_44 : decode prog_1_method_44_code 44 = .ok (.if_icmp .le 8, 3) := by decide +kernel
theorem d_O_richest_47 : decode prog_1_method_44_code 47 = .ok (.iload 4, 2) := by decide +kernel
theorem d_O_richest_49 : decode prog_1_method_44_code 49 = .ok (.istore_n 2, 1) := by decide +kernel
theorem d_O_richest_50 : decode prog_1_method_44_code 50 = .ok (.iload_n 3, 1) := by decide +kernel
theorem d_O_richest_51 : decode prog_1_method_44_code 51 = .ok (.istore_n 1, 1) := by decide +kernel
theorem d_O_richest_52 : decode prog_1_method_44_code 52 = .ok (.iinc 3 1, 3) := by decide +kernel
theorem d_O_richest_55 : decode prog_1_method_44_code 55 = .ok (.goto (-49), 3) := by decide +kernel
theorem d_O_richest_58 : decode prog_1_method_44_code 58 = .ok (.iload_n 1, 1) := by decide +kernel
theorem d_O_richest_59 : decode prog_1_method_44_code 59 = .ok (.ireturn, 1) := by decide +kernel
theorem d_O_worn_0 : decode prog_1_method_45_code 0 = .ok (.iconst (-1), 1) := by decide +kernel
theorem d_O_worn_1 : decode prog_1_method_45_code 1 = .ok (.istore_n 1, 1) := by decide +kernel
theorem d_O_worn_2 : decode prog_1_method_45_code 2 = .ok (.iconst 0, 1) := by decide +kernel
theorem d_O_worn_3 : decode prog_1_method_45_code 3 = .ok (.istore_n 2, 1) := by decide +kernel
theorem d_O_worn_4 : decode prog_1_method_45_code 4 = .ok (.iconst 0, 1) := by decide +kernel
theorem d_O_worn_5 : decode prog_1_method_45_code 5 = .ok (.istore_n 3, 1) := by decide +kernel
theorem d_O_worn_6 : decode prog_1_method_45_code 6 = .ok (.iload_n 3, 1) := by decide +kernel
theorem d_O_worn_7 : decode prog_1_method_45_code 7 = .ok (.aload_n 0, 1) := by decide +kernel
theorem d_O_worn_8 : decode prog_1_method_45_code 8 = .ok (.getfield 48, 3) := by decide +kernel
theorem d_O_worn_11 : decode prog_1_method_45_code 11 = .ok (.getfield 110, 3) := by decide +kernel
theorem d_O_worn_14 : decode prog_1_method_45_code 14 = .ok (.getfield 258, 3) := by decide +kernel
theorem d_O_worn_17 : decode prog_1_method_45_code 17 = .ok (.if_icmp .ge 30, 3) := by decide +kernel
theorem d_O_worn_20 : decode prog_1_method_45_code 20 = .ok (.aload_n 0, 1) := by decide +kernel
theorem d_O_worn_21 : decode prog_1_method_45_code 21 = .ok (.getfield 48, 3) := by decide +kernel
theorem d_O_worn_24 : decode prog_1_method_45_code 24 = .ok (.iload_n 3, 1) := by decide +kernel
theorem d_O_worn_25 : decode prog_1_method_45_code 25 = .ok (.invokevirtual 335, 3) := by decide +kernel
theorem d_O_worn_28 : decode prog_1_method_45_code 28 = .ok (.istore 4, 2) := by decide +kernel
theorem d_O_worn_30 : decode prog_1_method_45_code 30 = .ok (.iload 4, 2) := by decide +kernel
theorem d_O_worn_32 : decode prog_1_method_45_code 32 = .ok (.iload_n 2, 1) := by decide +kernel
theorem d_O_worn_33 : decode prog_1_method_45_code 33 = .ok (.if_icmp .le 8, 3) := by decide +kernel
theorem d_O_worn_36 : decode prog_1_method_45_code 36 = .ok (.iload 4, 2) := by decide +kernel
theorem d_O_worn_38 : decode prog_1_method_45_code 38 = .ok (.istore_n 2, 1) := by decide +kernel
theorem d_O_worn_39 : decode prog_1_method_45_code 39 = .ok (.iload_n 3, 1) := by decide +kernel
theorem d_O_worn_40 : decode prog_1_method_45_code 40 = .ok (.istore_n 1, 1) := by decide +kernel
theorem d_O_worn_41 : decode prog_1_method_45_code 41 = .ok (.iinc 3 1, 3) := by decide +kernel
theorem d_O_worn_44 : decode prog_1_method_45_code 44 = .ok (.goto (-38), 3) := by decide +kernel
theorem d_O_worn_47 : decode prog_1_method_45_code 47 = .ok (.iload_n 1, 1) := by decide +kernel
theorem d_O_worn_48 : decode prog_1_method_45_code 48 = .ok (.ireturn, 1) := by decide +kernel
theorem d_O_ledger_0 : decode prog_1_method_46_code 0 = .ok (.iload_n 1, 1) := by decide +kernel
theorem d_O_ledger_1 : decode prog_1_method_46_code 1 = .ok (.ifCond .lt 8, 3) := by decide +kernel
theorem d_O_ledger_4 : decode prog_1_method_46_code 4 = .ok (.iload_n 1, 1) := by decide +kernel
theorem d_O_ledger_5 : decode prog_1_method_46_code 5 = .ok (.iconst 3, 1) := by decide +kernel
theorem d_O_ledger_6 : decode prog_1_method_46_code 6 = .ok (.if_icmp .le 6, 3) := by decide +kernel
theorem d_O_ledger_9 : decode prog_1_method_46_code 9 = .ok (.bipush (-2), 2) := by decide +kernel
theorem d_O_ledger_11 : decode prog_1_method_46_code 11 = .ok (.ireturn, 1) := by decide +kernel
theorem d_O_ledger_12 : decode prog_1_method_46_code 12 = .ok (.iconst 0, 1) := by decide +kernel
theorem d_O_ledger_13 : decode prog_1_method_46_code 13 = .ok (.istore_n 2, 1) := by decide +kernel
theorem d_O_ledger_14 : decode prog_1_method_46_code 14 = .ok (.iconst 0, 1) := by decide +kernel
theorem d_O_ledger_15 : decode prog_1_method_46_code 15 = .ok (.istore_n 3, 1) := by decide +kernel
theorem d_O_ledger_16 : decode prog_1_method_46_code 16 = .ok (.iload_n 3, 1) := by decide +kernel
theorem d_O_ledger_17 : decode prog_1_method_46_code 17 = .ok (.aload_n 0, 1) := by decide +kernel
theorem d_O_ledger_18 : decode prog_1_method_46_code 18 = .ok (.getfield 48, 3) := by decide +kernel
theorem d_O_ledger_21 : decode prog_1_method_46_code 21 = .ok (.getfield 110, 3) := by decide +kernel
theorem d_O_ledger_24 : decode prog_1_method_46_code 24 = .ok (.getfield 211, 3) := by decide +kernel
theorem d_O_ledger_27 : decode prog_1_method_46_code 27 = .ok (.if_icmp .ge 33, 3) := by decide +kernel
theorem d_O_ledger_30 : decode prog_1_method_46_code 30 = .ok (.iload_n 2, 1) := by decide +kernel
theorem d_O_ledger_31 : decode prog_1_method_46_code 31 = .ok (.aload_n 0, 1) := by decide +kernel
theorem d_O_ledger_32 : decode prog_1_method_46_code 32 = .ok (.getfield 48, 3) := by decide +kernel
theorem d_O_ledger_35 : decode prog_1_method_46_code 35 = .ok (.getfield 110, 3) := by decide +kernel
theorem d_O_ledger_38 : decode prog_1_method_46_code 38 = .ok (.iload_n 3, 1) := by decide +kernel
theorem d_O_ledger_39 : decode prog_1_method_46_code 39 = .ok (.iconst 2, 1) := by decide +kernel
theorem d_O_ledger_40 : decode prog_1_method_46_code 40 = .ok (.invokevirtual 214, 3) := by decide +kernel
theorem d_O_ledger_43 : decode prog_1_method_46_code 43 = .ok (.iload_n 1, 1) := by decide +kernel
theorem d_O_ledger_44 : decode prog_1_method_46_code 44 = .ok (.if_icmp .ne 7, 3) := by decide +kernel
theorem d_O_ledger_47 : decode prog_1_method_46_code 47 = .ok (.iconst 1, 1) := by decide +kernel
theorem d_O_ledger_48 : decode prog_1_method_46_code 48 = .ok (.goto 4, 3) := by decide +kernel
theorem d_O_ledger_51 : decode prog_1_method_46_code 51 = .ok (.iconst 0, 1) := by decide +kernel
theorem d_O_ledger_52 : decode prog_1_method_46_code 52 = .ok (.iadd, 1) := by decide +kernel
theorem d_O_ledger_53 : decode prog_1_method_46_code 53 = .ok (.istore_n 2, 1) := by decide +kernel
theorem d_O_ledger_54 : decode prog_1_method_46_code 54 = .ok (.iinc 3 1, 3) := by decide +kernel
theorem d_O_ledger_57 : decode prog_1_method_46_code 57 = .ok (.goto (-41), 3) := by decide +kernel
theorem d_O_ledger_60 : decode prog_1_method_46_code 60 = .ok (.iload_n 2, 1) := by decide +kernel
theorem d_O_ledger_61 : decode prog_1_method_46_code 61 = .ok (.ireturn, 1) := by decide +kernel
theorem d_O_image_0 : decode prog_1_method_47_code 0 = .ok (.aload_n 0, 1) := by decide +kernel
theorem d_O_image_1 : decode prog_1_method_47_code 1 = .ok (.getfield 52, 3) := by decide +kernel
theorem d_O_image_4 : decode prog_1_method_47_code 4 = .ok (.aload_n 0, 1) := by decide +kernel
theorem d_O_image_5 : decode prog_1_method_47_code 5 = .ok (.getfield 48, 3) := by decide +kernel
theorem d_O_image_8 : decode prog_1_method_47_code 8 = .ok (.invokevirtual 338, 3) := by decide +kernel
theorem d_O_image_11 : decode prog_1_method_47_code 11 = .ok (.aload_n 0, 1) := by decide +kernel
theorem d_O_image_12 : decode prog_1_method_47_code 12 = .ok (.getfield 48, 3) := by decide +kernel
theorem d_O_image_15 : decode prog_1_method_47_code 15 = .ok (.getfield 110, 3) := by decide +kernel
theorem d_O_image_18 : decode prog_1_method_47_code 18 = .ok (.getfield 113, 3) := by decide +kernel
theorem d_O_image_21 : decode prog_1_method_47_code 21 = .ok (.ireturn, 1) := by decide +kernel
theorem d_H_copyFrom_0 : decode prog_2_method_2_code 0 = .ok (.aload_n 0, 1) := by decide +kernel
theorem d_H_copyFrom_1 : decode prog_2_method_2_code 1 = .ok (.getfield 12, 3) := by decide +kernel
theorem d_H_copyFrom_4 : decode prog_2_method_2_code 4 = .ok (.aload_n 1, 1) := by decide +kernel
theorem d_H_copyFrom_5 : decode prog_2_method_2_code 5 = .ok (.getfield 12, 3) := by decide +kernel
theorem d_H_copyFrom_8 : decode prog_2_method_2_code 8 = .ok (.invokevirtual 42, 3) := by decide +kernel
theorem d_H_copyFrom_11 : decode prog_2_method_2_code 11 = .ok (.aload_n 0, 1) := by decide +kernel
theorem d_H_copyFrom_12 : decode prog_2_method_2_code 12 = .ok (.getfield 21, 3) := by decide +kernel
theorem d_H_copyFrom_15 : decode prog_2_method_2_code 15 = .ok (.aload_n 1, 1) := by decide +kernel
theorem d_H_copyFrom_16 : decode prog_2_method_2_code 16 = .ok (.getfield 21, 3) := by decide +kernel
theorem d_H_copyFrom_19 : decode prog_2_method_2_code 19 = .ok (.invokevirtual 46, 3) := by decide +kernel
theorem d_H_copyFrom_22 : decode prog_2_method_2_code 22 = .ok (.aload_n 0, 1) := by decide +kernel
theorem d_H_copyFrom_23 : decode prog_2_method_2_code 23 = .ok (.aload_n 1, 1) := by decide +kernel
theorem d_H_copyFrom_24 : decode prog_2_method_2_code 24 = .ok (.getfield 49, 3) := by decide +kernel
theorem d_H_copyFrom_27 : decode prog_2_method_2_code 27 = .ok (.putfield 49, 3) := by decide +kernel
theorem d_H_copyFrom_30 : decode prog_2_method_2_code 30 = .ok (.aload_n 0, 1) := by decide +kernel
theorem d_H_copyFrom_31 : decode prog_2_method_2_code 31 = .ok (.aload_n 1, 1) := by decide +kernel
theorem d_H_copyFrom_32 : decode prog_2_method_2_code 32 = .ok (.getfield 29, 3) := by decide +kernel
theorem d_H_copyFrom_35 : decode prog_2_method_2_code 35 = .ok (.putfield 29, 3) := by decide +kernel
theorem d_H_copyFrom_38 : decode prog_2_method_2_code 38 = .ok (.aload_n 0, 1) := by decide +kernel
theorem d_H_copyFrom_39 : decode prog_2_method_2_code 39 = .ok (.aload_n 1, 1) := by decide +kernel
theorem d_H_copyFrom_40 : decode prog_2_method_2_code 40 = .ok (.getfield 52, 3) := by decide +kernel
theorem d_H_copyFrom_43 : decode prog_2_method_2_code 43 = .ok (.putfield 52, 3) := by decide +kernel
theorem d_H_copyFrom_46 : decode prog_2_method_2_code 46 = .ok (.aload_n 0, 1) := by decide +kernel
theorem d_H_copyFrom_47 : decode prog_2_method_2_code 47 = .ok (.aload_n 1, 1) := by decide +kernel
theorem d_H_copyFrom_48 : decode prog_2_method_2_code 48 = .ok (.getfield 55, 3) := by decide +kernel
theorem d_H_copyFrom_51 : decode prog_2_method_2_code 51 = .ok (.putfield 55, 3) := by decide +kernel
theorem d_H_copyFrom_54 : decode prog_2_method_2_code 54 = .ok (.aload_n 0, 1) := by decide +kernel
theorem d_H_copyFrom_55 : decode prog_2_method_2_code 55 = .ok (.aload_n 1, 1) := by decide +kernel
theorem d_H_copyFrom_56 : decode prog_2_method_2_code 56 = .ok (.getfield 58, 3) := by decide +kernel
theorem d_H_copyFrom_59 : decode prog_2_method_2_code 59 = .ok (.putfield 58, 3) := by decide +kernel
theorem d_H_copyFrom_62 : decode prog_2_method_2_code 62 = .ok (.aload_n 1, 1) := by decide +kernel
theorem d_H_copyFrom_63 : decode prog_2_method_2_code 63 = .ok (.getfield 25, 3) := by decide +kernel
theorem d_H_copyFrom_66 : decode prog_2_method_2_code 66 = .ok (.iconst 0, 1) := by decide +kernel
theorem d_H_copyFrom_67 : decode prog_2_method_2_code 67 = .ok (.aload_n 0, 1) := by decide +kernel
theorem d_H_copyFrom_68 : decode prog_2_method_2_code 68 = .ok (.getfield 25, 3) := by decide +kernel
theorem d_H_copyFrom_71 : decode prog_2_method_2_code 71 = .ok (.iconst 0, 1) := by decide +kernel
theorem d_H_copyFrom_72 : decode prog_2_method_2_code 72 = .ok (.bipush 8, 2) := by decide +kernel
theorem d_H_copyFrom_74 : decode prog_2_method_2_code 74 = .ok (.invokestatic 61, 3) := by decide +kernel
theorem d_H_copyFrom_77 : decode prog_2_method_2_code 77 = .ok (.aload_n 1, 1) := by decide +kernel
theorem d_H_copyFrom_78 : decode prog_2_method_2_code 78 = .ok (.getfield 33, 3) := by decide +kernel
theorem d_H_copyFrom_81 : decode prog_2_method_2_code 81 = .ok (.iconst 0, 1) := by decide +kernel
theorem d_H_copyFrom_82 : decode prog_2_method_2_code 82 = .ok (.aload_n 0, 1) := by decide +kernel
theorem d_H_copyFrom_83 : decode prog_2_method_2_code 83 = .ok (.getfield 33, 3) := by decide +kernel
theorem d_H_copyFrom_86 : decode prog_2_method_2_code 86 = .ok (.iconst 0, 1) := by decide +kernel
theorem d_H_copyFrom_87 : decode prog_2_method_2_code 87 = .ok (.bipush 8, 2) := by decide +kernel
theorem d_H_copyFrom_89 : decode prog_2_method_2_code 89 = .ok (.invokestatic 61, 3) := by decide +kernel
theorem d_H_copyFrom_92 : decode prog_2_method_2_code 92 = .ok (.aload_n 1, 1) := by decide +kernel
theorem d_H_copyFrom_93 : decode prog_2_method_2_code 93 = .ok (.getfield 36, 3) := by decide +kernel
theorem d_H_copyFrom_96 : decode prog_2_method_2_code 96 = .ok (.iconst 0, 1) := by decide +kernel
theorem d_H_copyFrom_97 : decode prog_2_method_2_code 97 = .ok (.aload_n 0, 1) := by decide +kernel
theorem d_H_copyFrom_98 : decode prog_2_method_2_code 98 = .ok (.getfield 36, 3) := by decide +kernel
theorem d_H_copyFrom_101 : decode prog_2_method_2_code 101 = .ok (.iconst 0, 1) := by decide +kernel
theorem d_H_copyFrom_102 : decode prog_2_method_2_code 102 = .ok (.bipush 8, 2) := by decide +kernel
theorem d_H_copyFrom_104 : decode prog_2_method_2_code 104 = .ok (.invokestatic 61, 3) := by decide +kernel
theorem d_H_copyFrom_107 : decode prog_2_method_2_code 107 = .ok (.aload_n 1, 1) := by decide +kernel
theorem d_H_copyFrom_108 : decode prog_2_method_2_code 108 = .ok (.getfield 39, 3) := by decide +kernel
theorem d_H_copyFrom_111 : decode prog_2_method_2_code 111 = .ok (.iconst 0, 1) := by decide +kernel
theorem d_H_copyFrom_112 : decode prog_2_method_2_code 112 = .ok (.aload_n 0, 1) := by decide +kernel
theorem d_H_copyFrom_113 : decode prog_2_method_2_code 113 = .ok (.getfield 39, 3) := by decide +kernel
theorem d_H_copyFrom_116 : decode prog_2_method_2_code 116 = .ok (.iconst 0, 1) := by decide +kernel
theorem d_H_copyFrom_117 : decode prog_2_method_2_code 117 = .ok (.bipush 8, 2) := by decide +kernel
theorem d_H_copyFrom_119 : decode prog_2_method_2_code 119 = .ok (.invokestatic 61, 3) := by decide +kernel
theorem d_H_copyFrom_122 : decode prog_2_method_2_code 122 = .ok (.return_, 1) := by decide +kernel
theorem d_S_copyFrom_0 : decode prog_6_method_4_code 0 = .ok (.aload_n 0, 1) := by decide +kernel
theorem d_S_copyFrom_1 : decode prog_6_method_4_code 1 = .ok (.aload_n 1, 1) := by decide +kernel
theorem d_S_copyFrom_2 : decode prog_6_method_4_code 2 = .ok (.getfield 22, 3) := by decide +kernel
theorem d_S_copyFrom_5 : decode prog_6_method_4_code 5 = .ok (.putfield 22, 3) := by decide +kernel
theorem d_S_copyFrom_8 : decode prog_6_method_4_code 8 = .ok (.aload_n 0, 1) := by decide +kernel
theorem d_S_copyFrom_9 : decode prog_6_method_4_code 9 = .ok (.aload_n 1, 1) := by decide +kernel
theorem d_S_copyFrom_10 : decode prog_6_method_4_code 10 = .ok (.getfield 18, 3) := by decide +kernel
theorem d_S_copyFrom_13 : decode prog_6_method_4_code 13 = .ok (.putfield 18, 3) := by decide +kernel
theorem d_S_copyFrom_16 : decode prog_6_method_4_code 16 = .ok (.iconst 0, 1) := by decide +kernel
theorem d_S_copyFrom_17 : decode prog_6_method_4_code 17 = .ok (.istore_n 2, 1) := by decide +kernel
theorem d_S_copyFrom_18 : decode prog_6_method_4_code 18 = .ok (.iload_n 2, 1) := by decide +kernel
theorem d_S_copyFrom_19 : decode prog_6_method_4_code 19 = .ok (.bipush 30, 2) := by decide +kernel
theorem d_S_copyFrom_21 : decode prog_6_method_4_code 21 = .ok (.if_icmp .ge 24, 3) := by decide +kernel
theorem d_S_copyFrom_24 : decode prog_6_method_4_code 24 = .ok (.aload_n 0, 1) := by decide +kernel
theorem d_S_copyFrom_25 : decode prog_6_method_4_code 25 = .ok (.getfield 11, 3) := by decide +kernel
theorem d_S_copyFrom_28 : decode prog_6_method_4_code 28 = .ok (.iload_n 2, 1) := by decide +kernel
theorem d_S_copyFrom_29 : decode prog_6_method_4_code 29 = .ok (.aaload, 1) := by decide +kernel
theorem d_S_copyFrom_30 : decode prog_6_method_4_code 30 = .ok (.aload_n 1, 1) := by decide +kernel
theorem d_S_copyFrom_31 : decode prog_6_method_4_code 31 = .ok (.getfield 11, 3) := by decide +kernel
theorem d_S_copyFrom_34 : decode prog_6_method_4_code 34 = .ok (.iload_n 2, 1) := by decide +kernel
theorem d_S_copyFrom_35 : decode prog_6_method_4_code 35 = .ok (.aaload, 1) := by decide +kernel
theorem d_S_copyFrom_36 : decode prog_6_method_4_code 36 = .ok (.invokevirtual 25, 3) := by decide +kernel
theorem d_S_copyFrom_39 : decode prog_6_method_4_code 39 = .ok (.iinc 2 1, 3) := by decide +kernel
theorem d_S_copyFrom_42 : decode prog_6_method_4_code 42 = .ok (.goto (-24), 3) := by decide +kernel
theorem d_S_copyFrom_45 : decode prog_6_method_4_code 45 = .ok (.return_, 1) := by decide +kernel
theorem d_O_back_0 : decode prog_1_method_48_code 0 = .ok (.aload_n 0, 1) := by decide +kernel
theorem d_O_back_1 : decode prog_1_method_48_code 1 = .ok (.getfield 48, 3) := by decide +kernel
theorem d_O_back_4 : decode prog_1_method_48_code 4 = .ok (.aload_n 0, 1) := by decide +kernel
theorem d_O_back_5 : decode prog_1_method_48_code 5 = .ok (.getfield 52, 3) := by decide +kernel
theorem d_O_back_8 : decode prog_1_method_48_code 8 = .ok (.invokevirtual 338, 3) := by decide +kernel
theorem d_O_back_11 : decode prog_1_method_48_code 11 = .ok (.aload_n 0, 1) := by decide +kernel
theorem d_O_back_12 : decode prog_1_method_48_code 12 = .ok (.getfield 48, 3) := by decide +kernel
theorem d_O_back_15 : decode prog_1_method_48_code 15 = .ok (.getfield 110, 3) := by decide +kernel
theorem d_O_back_18 : decode prog_1_method_48_code 18 = .ok (.getfield 113, 3) := by decide +kernel
theorem d_O_back_21 : decode prog_1_method_48_code 21 = .ok (.ireturn, 1) := by decide +kernel
theorem d_O_about_0 : decode prog_1_method_49_code 0 = .ok (.iload_n 1, 1) := by decide +kernel
theorem d_O_about_1 : decode prog_1_method_49_code 1 = .ok (.tableswitch 102 0 6 #[43, 54, 62, 70, 81, 89, 97], 43) := by decide +kernel
theorem d_O_about_44 : decode prog_1_method_49_code 44 = .ok (.aload_n 0, 1) := by decide +kernel
theorem d_O_about_45 : decode prog_1_method_49_code 45 = .ok (.getfield 48, 3) := by decide +kernel
theorem d_O_about_48 : decode prog_1_method_49_code 48 = .ok (.getfield 110, 3) := by decide +kernel
theorem d_O_about_51 : decode prog_1_method_49_code 51 = .ok (.getfield 258, 3) := by decide +kernel
theorem d_O_about_54 : decode prog_1_method_49_code 54 = .ok (.ireturn, 1) := by decide +kernel
theorem d_O_about_55 : decode prog_1_method_49_code 55 = .ok (.aload_n 0, 1) := by decide +kernel
theorem d_O_about_56 : decode prog_1_method_49_code 56 = .ok (.getfield 48, 3) := by decide +kernel
theorem d_O_about_59 : decode prog_1_method_49_code 59 = .ok (.getfield 85, 3) := by decide +kernel
theorem d_O_about_62 : decode prog_1_method_49_code 62 = .ok (.ireturn, 1) := by decide +kernel
theorem d_O_about_63 : decode prog_1_method_49_code 63 = .ok (.aload_n 0, 1) := by decide +kernel
theorem d_O_about_64 : decode prog_1_method_49_code 64 = .ok (.getfield 48, 3) := by decide +kernel
theorem d_O_about_67 : decode prog_1_method_49_code 67 = .ok (.getfield 100, 3) := by decide +kernel
theorem d_O_about_70 : decode prog_1_method_49_code 70 = .ok (.ireturn, 1) := by decide +kernel
theorem d_O_about_71 : decode prog_1_method_49_code 71 = .ok (.aload_n 0, 1) := by decide +kernel
theorem d_O_about_72 : decode prog_1_method_49_code 72 = .ok (.getfield 48, 3) := by decide +kernel
theorem d_O_about_75 : decode prog_1_method_49_code 75 = .ok (.getfield 135, 3) := by decide +kernel
theorem d_O_about_78 : decode prog_1_method_49_code 78 = .ok (.getfield 341, 3) := by decide +kernel
theorem d_O_about_81 : decode prog_1_method_49_code 81 = .ok (.ireturn, 1) := by decide +kernel
theorem d_O_about_82 : decode prog_1_method_49_code 82 = .ok (.aload_n 0, 1) := by decide +kernel
theorem d_O_about_83 : decode prog_1_method_49_code 83 = .ok (.getfield 48, 3) := by decide +kernel
theorem d_O_about_86 : decode prog_1_method_49_code 86 = .ok (.invokevirtual 297, 3) := by decide +kernel
theorem d_O_about_89 : decode prog_1_method_49_code 89 = .ok (.ireturn, 1) := by decide +kernel
theorem d_O_about_90 : decode prog_1_method_49_code 90 = .ok (.aload_n 0, 1) := by decide +kernel
theorem d_O_about_91 : decode prog_1_method_49_code 91 = .ok (.getfield 48, 3) := by decide +kernel
theorem d_O_about_94 : decode prog_1_method_49_code 94 = .ok (.getfield 319, 3) := by decide +kernel
theorem d_O_about_97 : decode prog_1_method_49_code 97 = .ok (.ireturn, 1) := by decide +kernel
theorem d_O_about_98 : decode prog_1_method_49_code 98 = .ok (.aload_n 0, 1) := by decide +kernel
theorem d_O_about_99 : decode prog_1_method_49_code 99 = .ok (.getfield 13, 3) := by decide +kernel
theorem d_O_about_102 : decode prog_1_method_49_code 102 = .ok (.ireturn, 1) := by decide +kernel
theorem d_O_about_103 : decode prog_1_method_49_code 103 = .ok (.bipush (-2), 2) := by decide +kernel
theorem d_O_about_105 : decode prog_1_method_49_code 105 = .ok (.ireturn, 1) := by decide +kernel
