theorem dL_dice_0 : decode cL_dice 0 = .ok (.iload_n 1, 1) := by decide +kernel
theorem dL_dice_1 : decode cL_dice 1 = .ok (.aload_n 0, 1) := by decide +kernel
theorem dL_dice_2 : decode cL_dice 2 = .ok (.arraylength, 1) := by decide +kernel
theorem dL_dice_3 : decode cL_dice 3 = .ok (.if_icmp .ge 9, 3) := by decide +kernel
theorem dL_dice_6 : decode cL_dice 6 = .ok (.aload_n 0, 1) := by decide +kernel
theorem dL_dice_7 : decode cL_dice 7 = .ok (.iload_n 1, 1) := by decide +kernel
theorem dL_dice_8 : decode cL_dice 8 = .ok (.iaload, 1) := by decide +kernel
theorem dL_dice_9 : decode cL_dice 9 = .ok (.goto 23, 3) := by decide +kernel
theorem dL_dice_12 : decode cL_dice 12 = .ok (.ldc 7, 2) := by decide +kernel
theorem dL_dice_14 : decode cL_dice 14 = .ok (.iload_n 1, 1) := by decide +kernel
theorem dL_dice_15 : decode cL_dice 15 = .ok (.sipush 263, 3) := by decide +kernel
theorem dL_dice_18 : decode cL_dice 18 = .ok (.iadd, 1) := by decide +kernel
theorem dL_dice_19 : decode cL_dice 19 = .ok (.imul, 1) := by decide +kernel
theorem dL_dice_20 : decode cL_dice 20 = .ok (.sipush 679, 3) := by decide +kernel
theorem dL_dice_23 : decode cL_dice 23 = .ok (.iload_n 1, 1) := by decide +kernel
theorem dL_dice_24 : decode cL_dice 24 = .ok (.imul, 1) := by decide +kernel
theorem dL_dice_25 : decode cL_dice 25 = .ok (.iload_n 1, 1) := by decide +kernel
theorem dL_dice_26 : decode cL_dice 26 = .ok (.imul, 1) := by decide +kernel
theorem dL_dice_27 : decode cL_dice 27 = .ok (.iadd, 1) := by decide +kernel
theorem dL_dice_28 : decode cL_dice 28 = .ok (.sipush 163, 3) := by decide +kernel
theorem dL_dice_31 : decode cL_dice 31 = .ok (.iadd, 1) := by decide +kernel
theorem dL_dice_32 : decode cL_dice 32 = .ok (.ldc 8, 2) := by decide +kernel
theorem dL_dice_34 : decode cL_dice 34 = .ok (.iand, 1) := by decide +kernel
theorem dL_dice_35 : decode cL_dice 35 = .ok (.ireturn, 1) := by decide +kernel
theorem dL_act_0 : decode cL_act 0 = .ok (.iload_n 1, 1) := by decide +kernel
theorem dL_act_1 : decode cL_act 1 = .ok (.ifCond .ne 19, 3) := by decide +kernel
theorem dL_act_4 : decode cL_act 4 = .ok (.aload_n 0, 1) := by decide +kernel
theorem dL_act_5 : decode cL_act 5 = .ok (.iload_n 2, 1) := by decide +kernel
theorem dL_act_6 : decode cL_act 6 = .ok (.invokevirtual 9, 3) := by decide +kernel
theorem dL_act_9 : decode cL_act 9 = .ok (.ifCond .eq 7, 3) := by decide +kernel
theorem dL_act_12 : decode cL_act 12 = .ok (.iconst 1, 1) := by decide +kernel
theorem dL_act_13 : decode cL_act 13 = .ok (.goto 74, 3) := by decide +kernel
theorem dL_act_16 : decode cL_act 16 = .ok (.iconst 0, 1) := by decide +kernel
theorem dL_act_17 : decode cL_act 17 = .ok (.goto 70, 3) := by decide +kernel
theorem dL_act_20 : decode cL_act 20 = .ok (.iload_n 1, 1) := by decide +kernel
theorem dL_act_21 : decode cL_act 21 = .ok (.iconst 1, 1) := by decide +kernel
theorem dL_act_22 : decode cL_act 22 = .ok (.if_icmp .ne 11, 3) := by decide +kernel
theorem dL_act_25 : decode cL_act 25 = .ok (.aload_n 0, 1) := by decide +kernel
theorem dL_act_26 : decode cL_act 26 = .ok (.iload_n 2, 1) := by decide +kernel
theorem dL_act_27 : decode cL_act 27 = .ok (.invokevirtual 15, 3) := by decide +kernel
theorem dL_act_30 : decode cL_act 30 = .ok (.goto 57, 3) := by decide +kernel
theorem dL_act_33 : decode cL_act 33 = .ok (.iload_n 1, 1) := by decide +kernel
theorem dL_act_34 : decode cL_act 34 = .ok (.iconst 2, 1) := by decide +kernel
theorem dL_act_35 : decode cL_act 35 = .ok (.if_icmp .ne 11, 3) := by decide +kernel
theorem dL_act_38 : decode cL_act 38 = .ok (.aload_n 0, 1) := by decide +kernel
theorem dL_act_39 : decode cL_act 39 = .ok (.iload_n 2, 1) := by decide +kernel
theorem dL_act_40 : decode cL_act 40 = .ok (.invokevirtual 19, 3) := by decide +kernel
theorem dL_act_43 : decode cL_act 43 = .ok (.goto 44, 3) := by decide +kernel
theorem dL_act_46 : decode cL_act 46 = .ok (.iload_n 1, 1) := by decide +kernel
theorem dL_act_47 : decode cL_act 47 = .ok (.iconst 3, 1) := by decide +kernel
theorem dL_act_48 : decode cL_act 48 = .ok (.if_icmp .ne 12, 3) := by decide +kernel
theorem dL_act_51 : decode cL_act 51 = .ok (.aload_n 0, 1) := by decide +kernel
theorem dL_act_52 : decode cL_act 52 = .ok (.iload_n 2, 1) := by decide +kernel
theorem dL_act_53 : decode cL_act 53 = .ok (.iload_n 3, 1) := by decide +kernel
theorem dL_act_54 : decode cL_act 54 = .ok (.invokevirtual 22, 3) := by decide +kernel
theorem dL_act_57 : decode cL_act 57 = .ok (.goto 30, 3) := by decide +kernel
theorem dL_act_60 : decode cL_act 60 = .ok (.iload_n 1, 1) := by decide +kernel
theorem dL_act_61 : decode cL_act 61 = .ok (.iconst 4, 1) := by decide +kernel
theorem dL_act_62 : decode cL_act 62 = .ok (.if_icmp .ne 11, 3) := by decide +kernel
theorem dL_act_65 : decode cL_act 65 = .ok (.aload_n 0, 1) := by decide +kernel
theorem dL_act_66 : decode cL_act 66 = .ok (.iload_n 2, 1) := by decide +kernel
theorem dL_act_67 : decode cL_act 67 = .ok (.invokevirtual 26, 3) := by decide +kernel
theorem dL_act_70 : decode cL_act 70 = .ok (.goto 17, 3) := by decide +kernel
theorem dL_act_73 : decode cL_act 73 = .ok (.aload_n 0, 1) := by decide +kernel
theorem dL_act_74 : decode cL_act 74 = .ok (.iload_n 2, 1) := by decide +kernel
theorem dL_act_75 : decode cL_act 75 = .ok (.iload_n 3, 1) := by decide +kernel
theorem dL_act_76 : decode cL_act 76 = .ok (.invokevirtual 29, 3) := by decide +kernel
theorem dL_act_79 : decode cL_act 79 = .ok (.ifCond .eq 7, 3) := by decide +kernel
theorem dL_act_82 : decode cL_act 82 = .ok (.iconst 1, 1) := by decide +kernel
theorem dL_act_83 : decode cL_act 83 = .ok (.goto 4, 3) := by decide +kernel
theorem dL_act_86 : decode cL_act 86 = .ok (.iconst 0, 1) := by decide +kernel
theorem dL_act_87 : decode cL_act 87 = .ok (.ireturn, 1) := by decide +kernel
theorem dL_act_88 : decode cL_act 88 = .ok (.astore 4, 2) := by decide +kernel
theorem dL_act_90 : decode cL_act 90 = .ok (.sipush (-1151), 3) := by decide +kernel
theorem dL_act_93 : decode cL_act 93 = .ok (.ireturn, 1) := by decide +kernel
theorem dL_act_94 : decode cL_act 94 = .ok (.astore 4, 2) := by decide +kernel
theorem dL_act_96 : decode cL_act 96 = .ok (.sipush (-1152), 3) := by decide +kernel
theorem dL_act_99 : decode cL_act 99 = .ok (.ireturn, 1) := by decide +kernel
theorem dL_all_0 : decode cL_all 0 = .ok (.aload_n 0, 1) := by decide +kernel
theorem dL_all_1 : decode cL_all 1 = .ok (.invokevirtual 37, 3) := by decide +kernel
theorem dL_all_4 : decode cL_all 4 = .ok (.i2l, 1) := by decide +kernel
theorem dL_all_5 : decode cL_all 5 = .ok (.ldc2_w 41, 3) := by decide +kernel
theorem dL_all_8 : decode cL_all 8 = .ok (.aload_n 0, 1) := by decide +kernel
theorem dL_all_9 : decode cL_all 9 = .ok (.invokevirtual 43, 3) := by decide +kernel
theorem dL_all_12 : decode cL_all 12 = .ok (.i2l, 1) := by decide +kernel
theorem dL_all_13 : decode cL_all 13 = .ok (.lmul, 1) := by decide +kernel
theorem dL_all_14 : decode cL_all 14 = .ok (.ladd, 1) := by decide +kernel
theorem dL_all_15 : decode cL_all 15 = .ok (.ldc2_w 46, 3) := by decide +kernel
theorem dL_all_18 : decode cL_all 18 = .ok (.aload_n 0, 1) := by decide +kernel
theorem dL_all_19 : decode cL_all 19 = .ok (.invokevirtual 48, 3) := by decide +kernel
theorem dL_all_22 : decode cL_all 22 = .ok (.i2l, 1) := by decide +kernel
theorem dL_all_23 : decode cL_all 23 = .ok (.lmul, 1) := by decide +kernel
theorem dL_all_24 : decode cL_all 24 = .ok (.ladd, 1) := by decide +kernel
theorem dL_all_25 : decode cL_all 25 = .ok (.ldc2_w 51, 3) := by decide +kernel
theorem dL_all_28 : decode cL_all 28 = .ok (.aload_n 0, 1) := by decide +kernel
theorem dL_all_29 : decode cL_all 29 = .ok (.invokevirtual 53, 3) := by decide +kernel
theorem dL_all_32 : decode cL_all 32 = .ok (.i2l, 1) := by decide +kernel
theorem dL_all_33 : decode cL_all 33 = .ok (.lmul, 1) := by decide +kernel
theorem dL_all_34 : decode cL_all 34 = .ok (.ladd, 1) := by decide +kernel
theorem dL_all_35 : decode cL_all 35 = .ok (.ldc2_w 56, 3) := by decide +kernel
theorem dL_all_38 : decode cL_all 38 = .ok (.aload_n 0, 1) := by decide +kernel
theorem dL_all_39 : decode cL_all 39 = .ok (.invokevirtual 58, 3) := by decide +kernel
theorem dL_all_42 : decode cL_all 42 = .ok (.i2l, 1) := by decide +kernel
theorem dL_all_43 : decode cL_all 43 = .ok (.lmul, 1) := by decide +kernel
theorem dL_all_44 : decode cL_all 44 = .ok (.ladd, 1) := by decide +kernel
theorem dL_all_45 : decode cL_all 45 = .ok (.ldc2_w 61, 3) := by decide +kernel
theorem dL_all_48 : decode cL_all 48 = .ok (.aload_n 0, 1) := by decide +kernel
theorem dL_all_49 : decode cL_all 49 = .ok (.invokevirtual 63, 3) := by decide +kernel
theorem dL_all_52 : decode cL_all 52 = .ok (.i2l, 1) := by decide +kernel
theorem dL_all_53 : decode cL_all 53 = .ok (.lmul, 1) := by decide +kernel
theorem dL_all_54 : decode cL_all 54 = .ok (.ladd, 1) := by decide +kernel
theorem dL_all_55 : decode cL_all 55 = .ok (.ldc2_w 66, 3) := by decide +kernel
theorem dL_all_58 : decode cL_all 58 = .ok (.aload_n 0, 1) := by decide +kernel
theorem dL_all_59 : decode cL_all 59 = .ok (.invokevirtual 68, 3) := by decide +kernel
theorem dL_all_62 : decode cL_all 62 = .ok (.i2l, 1) := by decide +kernel
theorem dL_all_63 : decode cL_all 63 = .ok (.lmul, 1) := by decide +kernel
theorem dL_all_64 : decode cL_all 64 = .ok (.ladd, 1) := by decide +kernel
theorem dL_all_65 : decode cL_all 65 = .ok (.ldc2_w 71, 3) := by decide +kernel
theorem dL_all_68 : decode cL_all 68 = .ok (.aload_n 0, 1) := by decide +kernel
theorem dL_all_69 : decode cL_all 69 = .ok (.invokevirtual 73, 3) := by decide +kernel
theorem dL_all_72 : decode cL_all 72 = .ok (.i2l, 1) := by decide +kernel
theorem dL_all_73 : decode cL_all 73 = .ok (.lmul, 1) := by decide +kernel
theorem dL_all_74 : decode cL_all 74 = .ok (.ladd, 1) := by decide +kernel
theorem dL_all_75 : decode cL_all 75 = .ok (.ldc2_w 76, 3) := by decide +kernel
theorem dL_all_78 : decode cL_all 78 = .ok (.aload_n 0, 1) := by decide +kernel
theorem dL_all_79 : decode cL_all 79 = .ok (.invokevirtual 78, 3) := by decide +kernel
theorem dL_all_82 : decode cL_all 82 = .ok (.i2l, 1) := by decide +kernel
theorem dL_all_83 : decode cL_all 83 = .ok (.lmul, 1) := by decide +kernel
theorem dL_all_84 : decode cL_all 84 = .ok (.ladd, 1) := by decide +kernel
theorem dL_all_85 : decode cL_all 85 = .ok (.ldc2_w 81, 3) := by decide +kernel
theorem dL_all_88 : decode cL_all 88 = .ok (.aload_n 0, 1) := by decide +kernel
theorem dL_all_89 : decode cL_all 89 = .ok (.invokevirtual 83, 3) := by decide +kernel
theorem dL_all_92 : decode cL_all 92 = .ok (.i2l, 1) := by decide +kernel
theorem dL_all_93 : decode cL_all 93 = .ok (.lmul, 1) := by decide +kernel
theorem dL_all_94 : decode cL_all 94 = .ok (.ladd, 1) := by decide +kernel
theorem dL_all_95 : decode cL_all 95 = .ok (.aload_n 0, 1) := by decide +kernel
theorem dL_all_96 : decode cL_all 96 = .ok (.iconst 0, 1) := by decide +kernel
theorem dL_all_97 : decode cL_all 97 = .ok (.invokevirtual 26, 3) := by decide +kernel
theorem dL_all_100 : decode cL_all 100 = .ok (.i2l, 1) := by decide +kernel
theorem dL_all_101 : decode cL_all 101 = .ok (.ladd, 1) := by decide +kernel
theorem dL_all_102 : decode cL_all 102 = .ok (.ldc2_w 86, 3) := by decide +kernel
theorem dL_all_105 : decode cL_all 105 = .ok (.aload_n 0, 1) := by decide +kernel
theorem dL_all_106 : decode cL_all 106 = .ok (.iconst 1, 1) := by decide +kernel
theorem dL_all_107 : decode cL_all 107 = .ok (.invokevirtual 26, 3) := by decide +kernel
theorem dL_all_110 : decode cL_all 110 = .ok (.i2l, 1) := by decide +kernel
theorem dL_all_111 : decode cL_all 111 = .ok (.lmul, 1) := by decide +kernel
theorem dL_all_112 : decode cL_all 112 = .ok (.ladd, 1) := by decide +kernel
theorem dL_all_113 : decode cL_all 113 = .ok (.ldc2_w 88, 3) := by decide +kernel
theorem dL_all_116 : decode cL_all 116 = .ok (.aload_n 0, 1) := by decide +kernel
theorem dL_all_117 : decode cL_all 117 = .ok (.iconst 2, 1) := by decide +kernel
theorem dL_all_118 : decode cL_all 118 = .ok (.invokevirtual 26, 3) := by decide +kernel
theorem dL_all_121 : decode cL_all 121 = .ok (.i2l, 1) := by decide +kernel
theorem dL_all_122 : decode cL_all 122 = .ok (.lmul, 1) := by decide +kernel
theorem dL_all_123 : decode cL_all 123 = .ok (.ladd, 1) := by decide +kernel
theorem dL_all_124 : decode cL_all 124 = .ok (.aload_n 0, 1) := by decide +kernel
theorem dL_all_125 : decode cL_all 125 = .ok (.invokevirtual 90, 3) := by decide +kernel
theorem dL_all_128 : decode cL_all 128 = .ok (.ifCond .eq 9, 3) := by decide +kernel
theorem dL_all_131 : decode cL_all 131 = .ok (.ldc2_w 94, 3) := by decide +kernel
theorem dL_all_134 : decode cL_all 134 = .ok (.goto 4, 3) := by decide +kernel
theorem dL_all_137 : decode cL_all 137 = .ok (.lconst 0, 1) := by decide +kernel
theorem dL_all_138 : decode cL_all 138 = .ok (.ladd, 1) := by decide +kernel
theorem dL_all_139 : decode cL_all 139 = .ok (.aload_n 0, 1) := by decide +kernel
theorem dL_all_140 : decode cL_all 140 = .ok (.invokevirtual 96, 3) := by decide +kernel
theorem dL_all_143 : decode cL_all 143 = .ok (.ifCond .eq 9, 3) := by decide +kernel
theorem dL_all_146 : decode cL_all 146 = .ok (.ldc2_w 99, 3) := by decide +kernel
theorem dL_all_149 : decode cL_all 149 = .ok (.goto 4, 3) := by decide +kernel
theorem dL_all_152 : decode cL_all 152 = .ok (.lconst 0, 1) := by decide +kernel
theorem dL_all_153 : decode cL_all 153 = .ok (.ladd, 1) := by decide +kernel
theorem dL_all_154 : decode cL_all 154 = .ok (.lreturn, 1) := by decide +kernel
theorem dL_size_0 : decode cL_size 0 = .ok (.iload_n 0, 1) := by decide +kernel
theorem dL_size_1 : decode cL_size 1 = .ok (.ifCond .ge 8, 3) := by decide +kernel
theorem dL_size_4 : decode cL_size 4 = .ok (.iload_n 0, 1) := by decide +kernel
theorem dL_size_5 : decode cL_size 5 = .ok (.ineg, 1) := by decide +kernel
theorem dL_size_6 : decode cL_size 6 = .ok (.goto 4, 3) := by decide +kernel
theorem dL_size_9 : decode cL_size 9 = .ok (.iload_n 0, 1) := by decide +kernel
theorem dL_size_10 : decode cL_size 10 = .ok (.istore_n 2, 1) := by decide +kernel
theorem dL_size_11 : decode cL_size 11 = .ok (.iload_n 1, 1) := by decide +kernel
theorem dL_size_12 : decode cL_size 12 = .ok (.ifCond .ge 8, 3) := by decide +kernel
theorem dL_size_15 : decode cL_size 15 = .ok (.iload_n 1, 1) := by decide +kernel
theorem dL_size_16 : decode cL_size 16 = .ok (.ineg, 1) := by decide +kernel
theorem dL_size_17 : decode cL_size 17 = .ok (.goto 4, 3) := by decide +kernel
theorem dL_size_20 : decode cL_size 20 = .ok (.iload_n 1, 1) := by decide +kernel
theorem dL_size_21 : decode cL_size 21 = .ok (.istore_n 3, 1) := by decide +kernel
theorem dL_size_22 : decode cL_size 22 = .ok (.iload_n 2, 1) := by decide +kernel
theorem dL_size_23 : decode cL_size 23 = .ok (.iload_n 3, 1) := by decide +kernel
theorem dL_size_24 : decode cL_size 24 = .ok (.if_icmp .le 7, 3) := by decide +kernel
theorem dL_size_27 : decode cL_size 27 = .ok (.iload_n 2, 1) := by decide +kernel
theorem dL_size_28 : decode cL_size 28 = .ok (.goto 4, 3) := by decide +kernel
theorem dL_size_31 : decode cL_size 31 = .ok (.iload_n 3, 1) := by decide +kernel
theorem dL_size_32 : decode cL_size 32 = .ok (.ireturn, 1) := by decide +kernel
theorem dL_moves_0 : decode cL_moves 0 = .ok (.aload_n 1, 1) := by decide +kernel
theorem dL_moves_1 : decode cL_moves 1 = .ok (.bipush 7, 2) := by decide +kernel
theorem dL_moves_3 : decode cL_moves 3 = .ok (.iconst 0, 1) := by decide +kernel
theorem dL_moves_4 : decode cL_moves 4 = .ok (.iastore, 1) := by decide +kernel
theorem dL_moves_5 : decode cL_moves 5 = .ok (.aload_n 1, 1) := by decide +kernel
theorem dL_moves_6 : decode cL_moves 6 = .ok (.iconst 0, 1) := by decide +kernel
theorem dL_moves_7 : decode cL_moves 7 = .ok (.dup2, 1) := by decide +kernel
theorem dL_moves_8 : decode cL_moves 8 = .ok (.iaload, 1) := by decide +kernel
theorem dL_moves_9 : decode cL_moves 9 = .ok (.iconst 1, 1) := by decide +kernel
theorem dL_moves_10 : decode cL_moves 10 = .ok (.isub, 1) := by decide +kernel
theorem dL_moves_11 : decode cL_moves 11 = .ok (.iastore, 1) := by decide +kernel
theorem dL_moves_12 : decode cL_moves 12 = .ok (.iconst 0, 1) := by decide +kernel
theorem dL_moves_13 : decode cL_moves 13 = .ok (.istore_n 2, 1) := by decide +kernel
theorem dL_moves_14 : decode cL_moves 14 = .ok (.iload_n 2, 1) := by decide +kernel
theorem dL_moves_15 : decode cL_moves 15 = .ok (.iconst 4, 1) := by decide +kernel
theorem dL_moves_16 : decode cL_moves 16 = .ok (.aload_n 1, 1) := by decide +kernel
theorem dL_moves_17 : decode cL_moves 17 = .ok (.iconst 0, 1) := by decide +kernel
theorem dL_moves_18 : decode cL_moves 18 = .ok (.iaload, 1) := by decide +kernel
theorem dL_moves_19 : decode cL_moves 19 = .ok (.imul, 1) := by decide +kernel
theorem dL_moves_20 : decode cL_moves 20 = .ok (.if_icmp .ge 17, 3) := by decide +kernel
theorem dL_moves_23 : decode cL_moves 23 = .ok (.aload_n 0, 1) := by decide +kernel
theorem dL_moves_24 : decode cL_moves 24 = .ok (.iload_n 2, 1) := by decide +kernel
theorem dL_moves_25 : decode cL_moves 25 = .ok (.aload_n 0, 1) := by decide +kernel
theorem dL_moves_26 : decode cL_moves 26 = .ok (.iload_n 2, 1) := by decide +kernel
theorem dL_moves_27 : decode cL_moves 27 = .ok (.iconst 4, 1) := by decide +kernel
theorem dL_moves_28 : decode cL_moves 28 = .ok (.iadd, 1) := by decide +kernel
theorem dL_moves_29 : decode cL_moves 29 = .ok (.iaload, 1) := by decide +kernel
theorem dL_moves_30 : decode cL_moves 30 = .ok (.iastore, 1) := by decide +kernel
theorem dL_moves_31 : decode cL_moves 31 = .ok (.iinc 2 1, 3) := by decide +kernel
theorem dL_moves_34 : decode cL_moves 34 = .ok (.goto (-20), 3) := by decide +kernel
theorem dL_moves_37 : decode cL_moves 37 = .ok (.return_, 1) := by decide +kernel
theorem dL_queues_0 : decode cL_queues 0 = .ok (.aload_n 1, 1) := by decide +kernel
theorem dL_queues_1 : decode cL_queues 1 = .ok (.iconst 5, 1) := by decide +kernel
theorem dL_queues_2 : decode cL_queues 2 = .ok (.iaload, 1) := by decide +kernel
theorem dL_queues_3 : decode cL_queues 3 = .ok (.iload_n 2, 1) := by decide +kernel
theorem dL_queues_4 : decode cL_queues 4 = .ok (.iconst 3, 1) := by decide +kernel
theorem dL_queues_5 : decode cL_queues 5 = .ok (.if_icmp .ne 7, 3) := by decide +kernel
theorem dL_queues_8 : decode cL_queues 8 = .ok (.iconst 0, 1) := by decide +kernel
theorem dL_queues_9 : decode cL_queues 9 = .ok (.goto 4, 3) := by decide +kernel
theorem dL_queues_12 : decode cL_queues 12 = .ok (.iload_n 3, 1) := by decide +kernel
theorem dL_queues_13 : decode cL_queues 13 = .ok (.iadd, 1) := by decide +kernel
theorem dL_queues_14 : decode cL_queues 14 = .ok (.istore 5, 2) := by decide +kernel
theorem dL_queues_16 : decode cL_queues 16 = .ok (.aload_n 1, 1) := by decide +kernel
theorem dL_queues_17 : decode cL_queues 17 = .ok (.bipush 6, 2) := by decide +kernel
theorem dL_queues_19 : decode cL_queues 19 = .ok (.iaload, 1) := by decide +kernel
theorem dL_queues_20 : decode cL_queues 20 = .ok (.iload_n 2, 1) := by decide +kernel
theorem dL_queues_21 : decode cL_queues 21 = .ok (.iconst 3, 1) := by decide +kernel
theorem dL_queues_22 : decode cL_queues 22 = .ok (.if_icmp .ne 7, 3) := by decide +kernel
theorem dL_queues_25 : decode cL_queues 25 = .ok (.iconst 0, 1) := by decide +kernel
theorem dL_queues_26 : decode cL_queues 26 = .ok (.goto 5, 3) := by decide +kernel
theorem dL_queues_29 : decode cL_queues 29 = .ok (.iload 4, 2) := by decide +kernel
theorem dL_queues_31 : decode cL_queues 31 = .ok (.iadd, 1) := by decide +kernel
theorem dL_queues_32 : decode cL_queues 32 = .ok (.istore 6, 2) := by decide +kernel
theorem dL_queues_34 : decode cL_queues 34 = .ok (.iload_n 2, 1) := by decide +kernel
theorem dL_queues_35 : decode cL_queues 35 = .ok (.iconst 3, 1) := by decide +kernel
theorem dL_queues_36 : decode cL_queues 36 = .ok (.if_icmp .ne 16, 3) := by decide +kernel
theorem dL_queues_39 : decode cL_queues 39 = .ok (.iload_n 3, 1) := by decide +kernel
theorem dL_queues_40 : decode cL_queues 40 = .ok (.iconst 3, 1) := by decide +kernel
theorem dL_queues_41 : decode cL_queues 41 = .ok (.if_icmp .ge 7, 3) := by decide +kernel
theorem dL_queues_44 : decode cL_queues 44 = .ok (.iconst 1, 1) := by decide +kernel
theorem dL_queues_45 : decode cL_queues 45 = .ok (.goto 45, 3) := by decide +kernel
theorem dL_queues_48 : decode cL_queues 48 = .ok (.iconst 0, 1) := by decide +kernel
theorem dL_queues_49 : decode cL_queues 49 = .ok (.goto 41, 3) := by decide +kernel
theorem dL_queues_52 : decode cL_queues 52 = .ok (.iload_n 3, 1) := by decide +kernel
theorem dL_queues_53 : decode cL_queues 53 = .ok (.iload 4, 2) := by decide +kernel
theorem dL_queues_55 : decode cL_queues 55 = .ok (.invokestatic 101, 3) := by decide +kernel
theorem dL_queues_58 : decode cL_queues 58 = .ok (.ifCond .le 31, 3) := by decide +kernel
theorem dL_queues_61 : decode cL_queues 61 = .ok (.iload 5, 2) := by decide +kernel
theorem dL_queues_63 : decode cL_queues 63 = .ok (.ifCond .lt 26, 3) := by decide +kernel
theorem dL_queues_66 : decode cL_queues 66 = .ok (.iload 5, 2) := by decide +kernel
theorem dL_queues_68 : decode cL_queues 68 = .ok (.bipush 100, 2) := by decide +kernel
theorem dL_queues_70 : decode cL_queues 70 = .ok (.if_icmp .ge 19, 3) := by decide +kernel
theorem dL_queues_73 : decode cL_queues 73 = .ok (.iload 6, 2) := by decide +kernel
theorem dL_queues_75 : decode cL_queues 75 = .ok (.ifCond .lt 14, 3) := by decide +kernel
theorem dL_queues_78 : decode cL_queues 78 = .ok (.iload 6, 2) := by decide +kernel
theorem dL_queues_80 : decode cL_queues 80 = .ok (.bipush 100, 2) := by decide +kernel
theorem dL_queues_82 : decode cL_queues 82 = .ok (.if_icmp .ge 7, 3) := by decide +kernel
theorem dL_queues_85 : decode cL_queues 85 = .ok (.iconst 1, 1) := by decide +kernel
theorem dL_queues_86 : decode cL_queues 86 = .ok (.goto 4, 3) := by decide +kernel
theorem dL_queues_89 : decode cL_queues 89 = .ok (.iconst 0, 1) := by decide +kernel
theorem dL_queues_90 : decode cL_queues 90 = .ok (.istore 7, 2) := by decide +kernel
theorem dL_queues_92 : decode cL_queues 92 = .ok (.aload_n 1, 1) := by decide +kernel
theorem dL_queues_93 : decode cL_queues 93 = .ok (.iconst 1, 1) := by decide +kernel
theorem dL_queues_94 : decode cL_queues 94 = .ok (.dup2, 1) := by decide +kernel
theorem dL_queues_95 : decode cL_queues 95 = .ok (.iaload, 1) := by decide +kernel
theorem dL_queues_96 : decode cL_queues 96 = .ok (.iload 7, 2) := by decide +kernel
theorem dL_queues_98 : decode cL_queues 98 = .ok (.ifCond .eq 7, 3) := by decide +kernel
theorem dL_queues_101 : decode cL_queues 101 = .ok (.iconst 0, 1) := by decide +kernel
theorem dL_queues_102 : decode cL_queues 102 = .ok (.goto 4, 3) := by decide +kernel
theorem dL_queues_105 : decode cL_queues 105 = .ok (.iconst 1, 1) := by decide +kernel
theorem dL_queues_106 : decode cL_queues 106 = .ok (.iadd, 1) := by decide +kernel
theorem dL_queues_107 : decode cL_queues 107 = .ok (.iastore, 1) := by decide +kernel
theorem dL_queues_108 : decode cL_queues 108 = .ok (.iload 7, 2) := by decide +kernel
theorem dL_queues_110 : decode cL_queues 110 = .ok (.ifCond .eq 70, 3) := by decide +kernel
theorem dL_queues_113 : decode cL_queues 113 = .ok (.aload_n 0, 1) := by decide +kernel
theorem dL_queues_114 : decode cL_queues 114 = .ok (.iconst 4, 1) := by decide +kernel
theorem dL_queues_115 : decode cL_queues 115 = .ok (.aload_n 1, 1) := by decide +kernel
theorem dL_queues_116 : decode cL_queues 116 = .ok (.iconst 0, 1) := by decide +kernel
theorem dL_queues_117 : decode cL_queues 117 = .ok (.iaload, 1) := by decide +kernel
theorem dL_queues_118 : decode cL_queues 118 = .ok (.imul, 1) := by decide +kernel
theorem dL_queues_119 : decode cL_queues 119 = .ok (.iload_n 2, 1) := by decide +kernel
theorem dL_queues_120 : decode cL_queues 120 = .ok (.iastore, 1) := by decide +kernel
theorem dL_queues_121 : decode cL_queues 121 = .ok (.aload_n 0, 1) := by decide +kernel
theorem dL_queues_122 : decode cL_queues 122 = .ok (.iconst 4, 1) := by decide +kernel
theorem dL_queues_123 : decode cL_queues 123 = .ok (.aload_n 1, 1) := by decide +kernel
theorem dL_queues_124 : decode cL_queues 124 = .ok (.iconst 0, 1) := by decide +kernel
theorem dL_queues_125 : decode cL_queues 125 = .ok (.iaload, 1) := by decide +kernel
theorem dL_queues_126 : decode cL_queues 126 = .ok (.imul, 1) := by decide +kernel
theorem dL_queues_127 : decode cL_queues 127 = .ok (.iconst 1, 1) := by decide +kernel
theorem dL_queues_128 : decode cL_queues 128 = .ok (.iadd, 1) := by decide +kernel
theorem dL_queues_129 : decode cL_queues 129 = .ok (.iload_n 3, 1) := by decide +kernel
theorem dL_queues_130 : decode cL_queues 130 = .ok (.iastore, 1) := by decide +kernel
theorem dL_queues_131 : decode cL_queues 131 = .ok (.aload_n 0, 1) := by decide +kernel
theorem dL_queues_132 : decode cL_queues 132 = .ok (.iconst 4, 1) := by decide +kernel
theorem dL_queues_133 : decode cL_queues 133 = .ok (.aload_n 1, 1) := by decide +kernel
theorem dL_queues_134 : decode cL_queues 134 = .ok (.iconst 0, 1) := by decide +kernel
theorem dL_queues_135 : decode cL_queues 135 = .ok (.iaload, 1) := by decide +kernel
theorem dL_queues_136 : decode cL_queues 136 = .ok (.imul, 1) := by decide +kernel
theorem dL_queues_137 : decode cL_queues 137 = .ok (.iconst 2, 1) := by decide +kernel
theorem dL_queues_138 : decode cL_queues 138 = .ok (.iadd, 1) := by decide +kernel
theorem dL_queues_139 : decode cL_queues 139 = .ok (.iload 4, 2) := by decide +kernel
theorem dL_queues_141 : decode cL_queues 141 = .ok (.iastore, 1) := by decide +kernel
theorem dL_queues_142 : decode cL_queues 142 = .ok (.aload_n 0, 1) := by decide +kernel
theorem dL_queues_143 : decode cL_queues 143 = .ok (.iconst 4, 1) := by decide +kernel
theorem dL_queues_144 : decode cL_queues 144 = .ok (.aload_n 1, 1) := by decide +kernel
theorem dL_queues_145 : decode cL_queues 145 = .ok (.iconst 0, 1) := by decide +kernel
theorem dL_queues_146 : decode cL_queues 146 = .ok (.iaload, 1) := by decide +kernel
theorem dL_queues_147 : decode cL_queues 147 = .ok (.imul, 1) := by decide +kernel
theorem dL_queues_148 : decode cL_queues 148 = .ok (.iconst 3, 1) := by decide +kernel
theorem dL_queues_149 : decode cL_queues 149 = .ok (.iadd, 1) := by decide +kernel
theorem dL_queues_150 : decode cL_queues 150 = .ok (.bipush 100, 2) := by decide +kernel
theorem dL_queues_152 : decode cL_queues 152 = .ok (.aload_n 1, 1) := by decide +kernel
theorem dL_queues_153 : decode cL_queues 153 = .ok (.bipush 6, 2) := by decide +kernel
theorem dL_queues_155 : decode cL_queues 155 = .ok (.iaload, 1) := by decide +kernel
theorem dL_queues_156 : decode cL_queues 156 = .ok (.imul, 1) := by decide +kernel
theorem dL_queues_157 : decode cL_queues 157 = .ok (.aload_n 1, 1) := by decide +kernel
theorem dL_queues_158 : decode cL_queues 158 = .ok (.iconst 5, 1) := by decide +kernel
theorem dL_queues_159 : decode cL_queues 159 = .ok (.iaload, 1) := by decide +kernel
theorem dL_queues_160 : decode cL_queues 160 = .ok (.iadd, 1) := by decide +kernel
theorem dL_queues_161 : decode cL_queues 161 = .ok (.iastore, 1) := by decide +kernel
theorem dL_queues_162 : decode cL_queues 162 = .ok (.aload_n 1, 1) := by decide +kernel
theorem dL_queues_163 : decode cL_queues 163 = .ok (.iconst 0, 1) := by decide +kernel
theorem dL_queues_164 : decode cL_queues 164 = .ok (.dup2, 1) := by decide +kernel
theorem dL_queues_165 : decode cL_queues 165 = .ok (.iaload, 1) := by decide +kernel
theorem dL_queues_166 : decode cL_queues 166 = .ok (.iconst 1, 1) := by decide +kernel
theorem dL_queues_167 : decode cL_queues 167 = .ok (.iadd, 1) := by decide +kernel
theorem dL_queues_168 : decode cL_queues 168 = .ok (.iastore, 1) := by decide +kernel
theorem dL_queues_169 : decode cL_queues 169 = .ok (.aload_n 1, 1) := by decide +kernel
theorem dL_queues_170 : decode cL_queues 170 = .ok (.iconst 5, 1) := by decide +kernel
theorem dL_queues_171 : decode cL_queues 171 = .ok (.iload 5, 2) := by decide +kernel
theorem dL_queues_173 : decode cL_queues 173 = .ok (.iastore, 1) := by decide +kernel
theorem dL_queues_174 : decode cL_queues 174 = .ok (.aload_n 1, 1) := by decide +kernel
theorem dL_queues_175 : decode cL_queues 175 = .ok (.bipush 6, 2) := by decide +kernel
theorem dL_queues_177 : decode cL_queues 177 = .ok (.iload 6, 2) := by decide +kernel
theorem dL_queues_179 : decode cL_queues 179 = .ok (.iastore, 1) := by decide +kernel
theorem dL_queues_180 : decode cL_queues 180 = .ok (.iload 7, 2) := by decide +kernel
theorem dL_queues_182 : decode cL_queues 182 = .ok (.ireturn, 1) := by decide +kernel
theorem dL_due_0 : decode cL_due 0 = .ok (.aload_n 0, 1) := by decide +kernel
theorem dL_due_1 : decode cL_due 1 = .ok (.invokevirtual 90, 3) := by decide +kernel
theorem dL_due_4 : decode cL_due 4 = .ok (.istore_n 3, 1) := by decide +kernel
theorem dL_due_5 : decode cL_due 5 = .ok (.aload_n 2, 1) := by decide +kernel
theorem dL_due_6 : decode cL_due 6 = .ok (.bipush 7, 2) := by decide +kernel
theorem dL_due_8 : decode cL_due 8 = .ok (.iaload, 1) := by decide +kernel
theorem dL_due_9 : decode cL_due 9 = .ok (.ineg, 1) := by decide +kernel
theorem dL_due_10 : decode cL_due 10 = .ok (.istore 4, 2) := by decide +kernel
theorem dL_due_12 : decode cL_due 12 = .ok (.iconst 0, 1) := by decide +kernel
theorem dL_due_13 : decode cL_due 13 = .ok (.istore 5, 2) := by decide +kernel
theorem dL_due_15 : decode cL_due 15 = .ok (.iload 5, 2) := by decide +kernel
theorem dL_due_17 : decode cL_due 17 = .ok (.aload_n 2, 1) := by decide +kernel
theorem dL_due_18 : decode cL_due 18 = .ok (.iconst 0, 1) := by decide +kernel
theorem dL_due_19 : decode cL_due 19 = .ok (.iaload, 1) := by decide +kernel
theorem dL_due_20 : decode cL_due 20 = .ok (.if_icmp .ge 79, 3) := by decide +kernel
theorem dL_due_23 : decode cL_due 23 = .ok (.aload_n 1, 1) := by decide +kernel
theorem dL_due_24 : decode cL_due 24 = .ok (.iconst 4, 1) := by decide +kernel
theorem dL_due_25 : decode cL_due 25 = .ok (.iload 5, 2) := by decide +kernel
theorem dL_due_27 : decode cL_due 27 = .ok (.imul, 1) := by decide +kernel
theorem dL_due_28 : decode cL_due 28 = .ok (.iaload, 1) := by decide +kernel
theorem dL_due_29 : decode cL_due 29 = .ok (.iconst 2, 1) := by decide +kernel
theorem dL_due_30 : decode cL_due 30 = .ok (.if_icmp .ne 7, 3) := by decide +kernel
theorem dL_due_33 : decode cL_due 33 = .ok (.iconst 1, 1) := by decide +kernel
theorem dL_due_34 : decode cL_due 34 = .ok (.goto 4, 3) := by decide +kernel
theorem dL_due_37 : decode cL_due 37 = .ok (.iconst 0, 1) := by decide +kernel
theorem dL_due_38 : decode cL_due 38 = .ok (.istore 6, 2) := by decide +kernel
theorem dL_due_40 : decode cL_due 40 = .ok (.iload 4, 2) := by decide +kernel
theorem dL_due_42 : decode cL_due 42 = .ok (.iload 6, 2) := by decide +kernel
theorem dL_due_44 : decode cL_due 44 = .ok (.iload_n 3, 1) := by decide +kernel
theorem dL_due_45 : decode cL_due 45 = .ok (.if_icmp .ne 7, 3) := by decide +kernel
theorem dL_due_48 : decode cL_due 48 = .ok (.iconst 0, 1) := by decide +kernel
theorem dL_due_49 : decode cL_due 49 = .ok (.goto 4, 3) := by decide +kernel
theorem dL_due_52 : decode cL_due 52 = .ok (.iconst 2, 1) := by decide +kernel
theorem dL_due_53 : decode cL_due 53 = .ok (.aload_n 1, 1) := by decide +kernel
theorem dL_due_54 : decode cL_due 54 = .ok (.iconst 4, 1) := by decide +kernel
theorem dL_due_55 : decode cL_due 55 = .ok (.iload 5, 2) := by decide +kernel
theorem dL_due_57 : decode cL_due 57 = .ok (.imul, 1) := by decide +kernel
theorem dL_due_58 : decode cL_due 58 = .ok (.iaload, 1) := by decide +kernel
theorem dL_due_59 : decode cL_due 59 = .ok (.iconst 3, 1) := by decide +kernel
theorem dL_due_60 : decode cL_due 60 = .ok (.if_icmp .ne 7, 3) := by decide +kernel
theorem dL_due_63 : decode cL_due 63 = .ok (.iconst 3, 1) := by decide +kernel
theorem dL_due_64 : decode cL_due 64 = .ok (.goto 22, 3) := by decide +kernel
theorem dL_due_67 : decode cL_due 67 = .ok (.aload_n 1, 1) := by decide +kernel
theorem dL_due_68 : decode cL_due 68 = .ok (.iconst 4, 1) := by decide +kernel
theorem dL_due_69 : decode cL_due 69 = .ok (.iload 5, 2) := by decide +kernel
theorem dL_due_71 : decode cL_due 71 = .ok (.imul, 1) := by decide +kernel
theorem dL_due_72 : decode cL_due 72 = .ok (.iconst 1, 1) := by decide +kernel
theorem dL_due_73 : decode cL_due 73 = .ok (.iadd, 1) := by decide +kernel
theorem dL_due_74 : decode cL_due 74 = .ok (.iaload, 1) := by decide +kernel
theorem dL_due_75 : decode cL_due 75 = .ok (.aload_n 1, 1) := by decide +kernel
theorem dL_due_76 : decode cL_due 76 = .ok (.iconst 4, 1) := by decide +kernel
theorem dL_due_77 : decode cL_due 77 = .ok (.iload 5, 2) := by decide +kernel
theorem dL_due_79 : decode cL_due 79 = .ok (.imul, 1) := by decide +kernel
theorem dL_due_80 : decode cL_due 80 = .ok (.iconst 2, 1) := by decide +kernel
theorem dL_due_81 : decode cL_due 81 = .ok (.iadd, 1) := by decide +kernel
theorem dL_due_82 : decode cL_due 82 = .ok (.iaload, 1) := by decide +kernel
theorem dL_due_83 : decode cL_due 83 = .ok (.invokestatic 101, 3) := by decide +kernel
theorem dL_due_86 : decode cL_due 86 = .ok (.iadd, 1) := by decide +kernel
theorem dL_due_87 : decode cL_due 87 = .ok (.iadd, 1) := by decide +kernel
theorem dL_due_88 : decode cL_due 88 = .ok (.istore 4, 2) := by decide +kernel
theorem dL_due_90 : decode cL_due 90 = .ok (.iload 6, 2) := by decide +kernel
theorem dL_due_92 : decode cL_due 92 = .ok (.istore_n 3, 1) := by decide +kernel
theorem dL_due_93 : decode cL_due 93 = .ok (.iinc 5 1, 3) := by decide +kernel
theorem dL_due_96 : decode cL_due 96 = .ok (.goto (-81), 3) := by decide +kernel
theorem dL_due_99 : decode cL_due 99 = .ok (.iload 4, 2) := by decide +kernel
theorem dL_due_101 : decode cL_due 101 = .ok (.ireturn, 1) := by decide +kernel
theorem dL_isOnLine_0 : decode cL_isOnLine 0 = .ok (.aload_n 0, 1) := by decide +kernel
theorem dL_isOnLine_1 : decode cL_isOnLine 1 = .ok (.invokevirtual 43, 3) := by decide +kernel
theorem dL_isOnLine_4 : decode cL_isOnLine 4 = .ok (.aload_n 2, 1) := by decide +kernel
theorem dL_isOnLine_5 : decode cL_isOnLine 5 = .ok (.iconst 0, 1) := by decide +kernel
theorem dL_isOnLine_6 : decode cL_isOnLine 6 = .ok (.iaload, 1) := by decide +kernel
theorem dL_isOnLine_7 : decode cL_isOnLine 7 = .ok (.if_icmp .ne 17, 3) := by decide +kernel
theorem dL_isOnLine_10 : decode cL_isOnLine 10 = .ok (.aload_n 0, 1) := by decide +kernel
theorem dL_isOnLine_11 : decode cL_isOnLine 11 = .ok (.invokevirtual 37, 3) := by decide +kernel
theorem dL_isOnLine_14 : decode cL_isOnLine 14 = .ok (.aload_n 2, 1) := by decide +kernel
theorem dL_isOnLine_15 : decode cL_isOnLine 15 = .ok (.iconst 1, 1) := by decide +kernel
theorem dL_isOnLine_16 : decode cL_isOnLine 16 = .ok (.iaload, 1) := by decide +kernel
theorem dL_isOnLine_17 : decode cL_isOnLine 17 = .ok (.if_icmp .ne 7, 3) := by decide +kernel
theorem dL_isOnLine_20 : decode cL_isOnLine 20 = .ok (.iconst 1, 1) := by decide +kernel
theorem dL_isOnLine_21 : decode cL_isOnLine 21 = .ok (.goto 4, 3) := by decide +kernel
theorem dL_isOnLine_24 : decode cL_isOnLine 24 = .ok (.iconst 0, 1) := by decide +kernel
theorem dL_isOnLine_25 : decode cL_isOnLine 25 = .ok (.istore_n 3, 1) := by decide +kernel
theorem dL_isOnLine_26 : decode cL_isOnLine 26 = .ok (.aload_n 2, 1) := by decide +kernel
theorem dL_isOnLine_27 : decode cL_isOnLine 27 = .ok (.iconst 0, 1) := by decide +kernel
theorem dL_isOnLine_28 : decode cL_isOnLine 28 = .ok (.iaload, 1) := by decide +kernel
theorem dL_isOnLine_29 : decode cL_isOnLine 29 = .ok (.ifCond .eq 7, 3) := by decide +kernel
theorem dL_isOnLine_32 : decode cL_isOnLine 32 = .ok (.iload_n 3, 1) := by decide +kernel
theorem dL_isOnLine_33 : decode cL_isOnLine 33 = .ok (.ifCond .ne 63, 3) := by decide +kernel
theorem dL_isOnLine_36 : decode cL_isOnLine 36 = .ok (.iload_n 3, 1) := by decide +kernel
theorem dL_isOnLine_37 : decode cL_isOnLine 37 = .ok (.ifCond .eq 57, 3) := by decide +kernel
theorem dL_isOnLine_40 : decode cL_isOnLine 40 = .ok (.aload_n 2, 1) := by decide +kernel
theorem dL_isOnLine_41 : decode cL_isOnLine 41 = .ok (.bipush 7, 2) := by decide +kernel
theorem dL_isOnLine_43 : decode cL_isOnLine 43 = .ok (.iaload, 1) := by decide +kernel
theorem dL_isOnLine_44 : decode cL_isOnLine 44 = .ok (.ifCond .ne 50, 3) := by decide +kernel
theorem dL_isOnLine_47 : decode cL_isOnLine 47 = .ok (.aload_n 0, 1) := by decide +kernel
theorem dL_isOnLine_48 : decode cL_isOnLine 48 = .ok (.invokevirtual 58, 3) := by decide +kernel
theorem dL_isOnLine_51 : decode cL_isOnLine 51 = .ok (.ifCond .ne 43, 3) := by decide +kernel
theorem dL_isOnLine_54 : decode cL_isOnLine 54 = .ok (.aload_n 0, 1) := by decide +kernel
theorem dL_isOnLine_55 : decode cL_isOnLine 55 = .ok (.invokevirtual 53, 3) := by decide +kernel
theorem dL_isOnLine_58 : decode cL_isOnLine 58 = .ok (.bipush 100, 2) := by decide +kernel
theorem dL_isOnLine_60 : decode cL_isOnLine 60 = .ok (.aload_n 2, 1) := by decide +kernel
theorem dL_isOnLine_61 : decode cL_isOnLine 61 = .ok (.bipush 6, 2) := by decide +kernel
theorem dL_isOnLine_63 : decode cL_isOnLine 63 = .ok (.iaload, 1) := by decide +kernel
theorem dL_isOnLine_64 : decode cL_isOnLine 64 = .ok (.imul, 1) := by decide +kernel
theorem dL_isOnLine_65 : decode cL_isOnLine 65 = .ok (.aload_n 2, 1) := by decide +kernel
theorem dL_isOnLine_66 : decode cL_isOnLine 66 = .ok (.iconst 5, 1) := by decide +kernel
theorem dL_isOnLine_67 : decode cL_isOnLine 67 = .ok (.iaload, 1) := by decide +kernel
theorem dL_isOnLine_68 : decode cL_isOnLine 68 = .ok (.iadd, 1) := by decide +kernel
theorem dL_isOnLine_69 : decode cL_isOnLine 69 = .ok (.if_icmp .ne 25, 3) := by decide +kernel
theorem dL_isOnLine_72 : decode cL_isOnLine 72 = .ok (.aload_n 0, 1) := by decide +kernel
theorem dL_isOnLine_73 : decode cL_isOnLine 73 = .ok (.invokevirtual 96, 3) := by decide +kernel
theorem dL_isOnLine_76 : decode cL_isOnLine 76 = .ok (.ifCond .ne 18, 3) := by decide +kernel
theorem dL_isOnLine_79 : decode cL_isOnLine 79 = .ok (.aload_n 0, 1) := by decide +kernel
theorem dL_isOnLine_80 : decode cL_isOnLine 80 = .ok (.invokevirtual 63, 3) := by decide +kernel
theorem dL_isOnLine_83 : decode cL_isOnLine 83 = .ok (.aload_n 0, 1) := by decide +kernel
theorem dL_isOnLine_84 : decode cL_isOnLine 84 = .ok (.invokevirtual 68, 3) := by decide +kernel
theorem dL_isOnLine_87 : decode cL_isOnLine 87 = .ok (.if_icmp .ne 7, 3) := by decide +kernel
theorem dL_isOnLine_90 : decode cL_isOnLine 90 = .ok (.iconst 1, 1) := by decide +kernel
theorem dL_isOnLine_91 : decode cL_isOnLine 91 = .ok (.goto 4, 3) := by decide +kernel
theorem dL_isOnLine_94 : decode cL_isOnLine 94 = .ok (.iconst 0, 1) := by decide +kernel
theorem dL_isOnLine_95 : decode cL_isOnLine 95 = .ok (.ireturn, 1) := by decide +kernel
theorem dL_isOnLine_96 : decode cL_isOnLine 96 = .ok (.aload_n 0, 1) := by decide +kernel
theorem dL_isOnLine_97 : decode cL_isOnLine 97 = .ok (.aload_n 1, 1) := by decide +kernel
theorem dL_isOnLine_98 : decode cL_isOnLine 98 = .ok (.aload_n 2, 1) := by decide +kernel
theorem dL_isOnLine_99 : decode cL_isOnLine 99 = .ok (.invokestatic 106, 3) := by decide +kernel
theorem dL_isOnLine_102 : decode cL_isOnLine 102 = .ok (.aload_n 0, 1) := by decide +kernel
theorem dL_isOnLine_103 : decode cL_isOnLine 103 = .ok (.invokevirtual 58, 3) := by decide +kernel
theorem dL_isOnLine_106 : decode cL_isOnLine 106 = .ok (.isub, 1) := by decide +kernel
theorem dL_isOnLine_107 : decode cL_isOnLine 107 = .ok (.istore 4, 2) := by decide +kernel
theorem dL_isOnLine_109 : decode cL_isOnLine 109 = .ok (.aload_n 1, 1) := by decide +kernel
theorem dL_isOnLine_110 : decode cL_isOnLine 110 = .ok (.iconst 0, 1) := by decide +kernel
theorem dL_isOnLine_111 : decode cL_isOnLine 111 = .ok (.iaload, 1) := by decide +kernel
theorem dL_isOnLine_112 : decode cL_isOnLine 112 = .ok (.iconst 2, 1) := by decide +kernel
theorem dL_isOnLine_113 : decode cL_isOnLine 113 = .ok (.if_icmp .ne 7, 3) := by decide +kernel
theorem dL_isOnLine_116 : decode cL_isOnLine 116 = .ok (.iconst 1, 1) := by decide +kernel
theorem dL_isOnLine_117 : decode cL_isOnLine 117 = .ok (.goto 4, 3) := by decide +kernel
theorem dL_isOnLine_120 : decode cL_isOnLine 120 = .ok (.iconst 0, 1) := by decide +kernel
theorem dL_isOnLine_121 : decode cL_isOnLine 121 = .ok (.aload_n 0, 1) := by decide +kernel
theorem dL_isOnLine_122 : decode cL_isOnLine 122 = .ok (.invokevirtual 90, 3) := by decide +kernel
theorem dL_isOnLine_125 : decode cL_isOnLine 125 = .ok (.if_icmp .eq 7, 3) := by decide +kernel
theorem dL_isOnLine_128 : decode cL_isOnLine 128 = .ok (.iconst 1, 1) := by decide +kernel
theorem dL_isOnLine_129 : decode cL_isOnLine 129 = .ok (.goto 4, 3) := by decide +kernel
theorem dL_isOnLine_132 : decode cL_isOnLine 132 = .ok (.iconst 0, 1) := by decide +kernel
theorem dL_isOnLine_133 : decode cL_isOnLine 133 = .ok (.istore 5, 2) := by decide +kernel
theorem dL_isOnLine_135 : decode cL_isOnLine 135 = .ok (.aload_n 1, 1) := by decide +kernel
theorem dL_isOnLine_136 : decode cL_isOnLine 136 = .ok (.iconst 0, 1) := by decide +kernel
theorem dL_isOnLine_137 : decode cL_isOnLine 137 = .ok (.iaload, 1) := by decide +kernel
theorem dL_isOnLine_138 : decode cL_isOnLine 138 = .ok (.iconst 2, 1) := by decide +kernel
theorem dL_isOnLine_139 : decode cL_isOnLine 139 = .ok (.if_icmp .ne 25, 3) := by decide +kernel
theorem dL_isOnLine_142 : decode cL_isOnLine 142 = .ok (.aload_n 0, 1) := by decide +kernel
theorem dL_isOnLine_143 : decode cL_isOnLine 143 = .ok (.invokevirtual 90, 3) := by decide +kernel
theorem dL_isOnLine_146 : decode cL_isOnLine 146 = .ok (.ifCond .eq 18, 3) := by decide +kernel
theorem dL_isOnLine_149 : decode cL_isOnLine 149 = .ok (.aload_n 0, 1) := by decide +kernel
theorem dL_isOnLine_150 : decode cL_isOnLine 150 = .ok (.aload_n 0, 1) := by decide +kernel
theorem dL_isOnLine_151 : decode cL_isOnLine 151 = .ok (.invokevirtual 73, 3) := by decide +kernel
theorem dL_isOnLine_154 : decode cL_isOnLine 154 = .ok (.invokevirtual 26, 3) := by decide +kernel
theorem dL_isOnLine_157 : decode cL_isOnLine 157 = .ok (.ifCond .ne 7, 3) := by decide +kernel
theorem dL_isOnLine_160 : decode cL_isOnLine 160 = .ok (.iconst 1, 1) := by decide +kernel
theorem dL_isOnLine_161 : decode cL_isOnLine 161 = .ok (.goto 4, 3) := by decide +kernel
theorem dL_isOnLine_164 : decode cL_isOnLine 164 = .ok (.iconst 0, 1) := by decide +kernel
theorem dL_isOnLine_165 : decode cL_isOnLine 165 = .ok (.istore 6, 2) := by decide +kernel
theorem dL_isOnLine_167 : decode cL_isOnLine 167 = .ok (.iload 4, 2) := by decide +kernel
theorem dL_isOnLine_169 : decode cL_isOnLine 169 = .ok (.ifCond .lt 93, 3) := by decide +kernel
theorem dL_isOnLine_172 : decode cL_isOnLine 172 = .ok (.iload 4, 2) := by decide +kernel
theorem dL_isOnLine_174 : decode cL_isOnLine 174 = .ok (.iload 5, 2) := by decide +kernel
theorem dL_isOnLine_176 : decode cL_isOnLine 176 = .ok (.ifCond .eq 7, 3) := by decide +kernel
theorem dL_isOnLine_179 : decode cL_isOnLine 179 = .ok (.iconst 1, 1) := by decide +kernel
theorem dL_isOnLine_180 : decode cL_isOnLine 180 = .ok (.goto 15, 3) := by decide +kernel
theorem dL_isOnLine_183 : decode cL_isOnLine 183 = .ok (.aload_n 1, 1) := by decide +kernel
theorem dL_isOnLine_184 : decode cL_isOnLine 184 = .ok (.iconst 0, 1) := by decide +kernel
theorem dL_isOnLine_185 : decode cL_isOnLine 185 = .ok (.iaload, 1) := by decide +kernel
theorem dL_isOnLine_186 : decode cL_isOnLine 186 = .ok (.iconst 3, 1) := by decide +kernel
theorem dL_isOnLine_187 : decode cL_isOnLine 187 = .ok (.if_icmp .ne 7, 3) := by decide +kernel
theorem dL_isOnLine_190 : decode cL_isOnLine 190 = .ok (.iconst 2, 1) := by decide +kernel
theorem dL_isOnLine_191 : decode cL_isOnLine 191 = .ok (.goto 4, 3) := by decide +kernel
theorem dL_isOnLine_194 : decode cL_isOnLine 194 = .ok (.iconst 0, 1) := by decide +kernel
theorem dL_isOnLine_195 : decode cL_isOnLine 195 = .ok (.if_icmp .gt 67, 3) := by decide +kernel
theorem dL_isOnLine_198 : decode cL_isOnLine 198 = .ok (.aload_n 0, 1) := by decide +kernel
theorem dL_isOnLine_199 : decode cL_isOnLine 199 = .ok (.invokevirtual 53, 3) := by decide +kernel
theorem dL_isOnLine_202 : decode cL_isOnLine 202 = .ok (.aload_n 1, 1) := by decide +kernel
theorem dL_isOnLine_203 : decode cL_isOnLine 203 = .ok (.iconst 0, 1) := by decide +kernel
theorem dL_isOnLine_204 : decode cL_isOnLine 204 = .ok (.iaload, 1) := by decide +kernel
theorem dL_isOnLine_205 : decode cL_isOnLine 205 = .ok (.iconst 3, 1) := by decide +kernel
theorem dL_isOnLine_206 : decode cL_isOnLine 206 = .ok (.if_icmp .ne 9, 3) := by decide +kernel
theorem dL_isOnLine_209 : decode cL_isOnLine 209 = .ok (.aload_n 1, 1) := by decide +kernel
theorem dL_isOnLine_210 : decode cL_isOnLine 210 = .ok (.iconst 3, 1) := by decide +kernel
theorem dL_isOnLine_211 : decode cL_isOnLine 211 = .ok (.iaload, 1) := by decide +kernel
theorem dL_isOnLine_212 : decode cL_isOnLine 212 = .ok (.goto 11, 3) := by decide +kernel
theorem dL_isOnLine_215 : decode cL_isOnLine 215 = .ok (.aload_n 1, 1) := by decide +kernel
theorem dL_isOnLine_216 : decode cL_isOnLine 216 = .ok (.aload_n 2, 1) := by decide +kernel
theorem dL_isOnLine_217 : decode cL_isOnLine 217 = .ok (.bipush 7, 2) := by decide +kernel
theorem dL_isOnLine_219 : decode cL_isOnLine 219 = .ok (.iaload, 1) := by decide +kernel
theorem dL_isOnLine_220 : decode cL_isOnLine 220 = .ok (.invokestatic 110, 3) := by decide +kernel
theorem dL_isOnLine_223 : decode cL_isOnLine 223 = .ok (.if_icmp .ne 39, 3) := by decide +kernel
theorem dL_isOnLine_226 : decode cL_isOnLine 226 = .ok (.aload_n 1, 1) := by decide +kernel
theorem dL_isOnLine_227 : decode cL_isOnLine 227 = .ok (.iconst 0, 1) := by decide +kernel
theorem dL_isOnLine_228 : decode cL_isOnLine 228 = .ok (.iaload, 1) := by decide +kernel
theorem dL_isOnLine_229 : decode cL_isOnLine 229 = .ok (.iconst 3, 1) := by decide +kernel
theorem dL_isOnLine_230 : decode cL_isOnLine 230 = .ok (.if_icmp .eq 19, 3) := by decide +kernel
theorem dL_isOnLine_233 : decode cL_isOnLine 233 = .ok (.aload_n 2, 1) := by decide +kernel
theorem dL_isOnLine_234 : decode cL_isOnLine 234 = .ok (.bipush 7, 2) := by decide +kernel
theorem dL_isOnLine_236 : decode cL_isOnLine 236 = .ok (.iaload, 1) := by decide +kernel
theorem dL_isOnLine_237 : decode cL_isOnLine 237 = .ok (.aload_n 1, 1) := by decide +kernel
theorem dL_isOnLine_238 : decode cL_isOnLine 238 = .ok (.iconst 1, 1) := by decide +kernel
theorem dL_isOnLine_239 : decode cL_isOnLine 239 = .ok (.iaload, 1) := by decide +kernel
theorem dL_isOnLine_240 : decode cL_isOnLine 240 = .ok (.aload_n 1, 1) := by decide +kernel
theorem dL_isOnLine_241 : decode cL_isOnLine 241 = .ok (.iconst 2, 1) := by decide +kernel
theorem dL_isOnLine_242 : decode cL_isOnLine 242 = .ok (.iaload, 1) := by decide +kernel
theorem dL_isOnLine_243 : decode cL_isOnLine 243 = .ok (.invokestatic 101, 3) := by decide +kernel
theorem dL_isOnLine_246 : decode cL_isOnLine 246 = .ok (.if_icmp .ge 16, 3) := by decide +kernel
theorem dL_isOnLine_249 : decode cL_isOnLine 249 = .ok (.aload_n 0, 1) := by decide +kernel
theorem dL_isOnLine_250 : decode cL_isOnLine 250 = .ok (.invokevirtual 96, 3) := by decide +kernel
theorem dL_isOnLine_253 : decode cL_isOnLine 253 = .ok (.iload 6, 2) := by decide +kernel
theorem dL_isOnLine_255 : decode cL_isOnLine 255 = .ok (.if_icmp .ne 7, 3) := by decide +kernel
theorem dL_isOnLine_258 : decode cL_isOnLine 258 = .ok (.iconst 1, 1) := by decide +kernel
theorem dL_isOnLine_259 : decode cL_isOnLine 259 = .ok (.goto 4, 3) := by decide +kernel
theorem dL_isOnLine_262 : decode cL_isOnLine 262 = .ok (.iconst 0, 1) := by decide +kernel
theorem dL_isOnLine_263 : decode cL_isOnLine 263 = .ok (.ireturn, 1) := by decide +kernel
theorem dL_cell_0 : decode cL_cell 0 = .ok (.aload_n 0, 1) := by decide +kernel
theorem dL_cell_1 : decode cL_cell 1 = .ok (.iconst 1, 1) := by decide +kernel
theorem dL_cell_2 : decode cL_cell 2 = .ok (.iaload, 1) := by decide +kernel
theorem dL_cell_3 : decode cL_cell 3 = .ok (.aload_n 0, 1) := by decide +kernel
theorem dL_cell_4 : decode cL_cell 4 = .ok (.iconst 2, 1) := by decide +kernel
theorem dL_cell_5 : decode cL_cell 5 = .ok (.iaload, 1) := by decide +kernel
theorem dL_cell_6 : decode cL_cell 6 = .ok (.invokestatic 101, 3) := by decide +kernel
theorem dL_cell_9 : decode cL_cell 9 = .ok (.istore_n 2, 1) := by decide +kernel
theorem dL_cell_10 : decode cL_cell 10 = .ok (.aload_n 0, 1) := by decide +kernel
theorem dL_cell_11 : decode cL_cell 11 = .ok (.iconst 3, 1) := by decide +kernel
theorem dL_cell_12 : decode cL_cell 12 = .ok (.iaload, 1) := by decide +kernel
theorem dL_cell_13 : decode cL_cell 13 = .ok (.aload_n 0, 1) := by decide +kernel
theorem dL_cell_14 : decode cL_cell 14 = .ok (.iconst 1, 1) := by decide +kernel
theorem dL_cell_15 : decode cL_cell 15 = .ok (.iaload, 1) := by decide +kernel
theorem dL_cell_16 : decode cL_cell 16 = .ok (.iload_n 1, 1) := by decide +kernel
theorem dL_cell_17 : decode cL_cell 17 = .ok (.imul, 1) := by decide +kernel
theorem dL_cell_18 : decode cL_cell 18 = .ok (.iload_n 2, 1) := by decide +kernel
theorem dL_cell_19 : decode cL_cell 19 = .ok (.idiv, 1) := by decide +kernel
theorem dL_cell_20 : decode cL_cell 20 = .ok (.iadd, 1) := by decide +kernel
theorem dL_cell_21 : decode cL_cell 21 = .ok (.bipush 100, 2) := by decide +kernel
theorem dL_cell_23 : decode cL_cell 23 = .ok (.aload_n 0, 1) := by decide +kernel
theorem dL_cell_24 : decode cL_cell 24 = .ok (.iconst 2, 1) := by decide +kernel
theorem dL_cell_25 : decode cL_cell 25 = .ok (.iaload, 1) := by decide +kernel
theorem dL_cell_26 : decode cL_cell 26 = .ok (.iload_n 1, 1) := by decide +kernel
theorem dL_cell_27 : decode cL_cell 27 = .ok (.imul, 1) := by decide +kernel
theorem dL_cell_28 : decode cL_cell 28 = .ok (.iload_n 2, 1) := by decide +kernel
theorem dL_cell_29 : decode cL_cell 29 = .ok (.idiv, 1) := by decide +kernel
theorem dL_cell_30 : decode cL_cell 30 = .ok (.imul, 1) := by decide +kernel
theorem dL_cell_31 : decode cL_cell 31 = .ok (.iadd, 1) := by decide +kernel
theorem dL_cell_32 : decode cL_cell 32 = .ok (.ireturn, 1) := by decide +kernel
theorem dL_isMarkedHere_0 : decode cL_isMarkedHere 0 = .ok (.aload_n 0, 1) := by decide +kernel
theorem dL_isMarkedHere_1 : decode cL_isMarkedHere 1 = .ok (.invokevirtual 90, 3) := by decide +kernel
theorem dL_isMarkedHere_4 : decode cL_isMarkedHere 4 = .ok (.ifCond .eq 24, 3) := by decide +kernel
theorem dL_isMarkedHere_7 : decode cL_isMarkedHere 7 = .ok (.aload_n 0, 1) := by decide +kernel
theorem dL_isMarkedHere_8 : decode cL_isMarkedHere 8 = .ok (.aload_n 0, 1) := by decide +kernel
theorem dL_isMarkedHere_9 : decode cL_isMarkedHere 9 = .ok (.invokevirtual 53, 3) := by decide +kernel
theorem dL_isMarkedHere_12 : decode cL_isMarkedHere 12 = .ok (.bipush 100, 2) := by decide +kernel
theorem dL_isMarkedHere_14 : decode cL_isMarkedHere 14 = .ok (.irem, 1) := by decide +kernel
theorem dL_isMarkedHere_15 : decode cL_isMarkedHere 15 = .ok (.aload_n 0, 1) := by decide +kernel
theorem dL_isMarkedHere_16 : decode cL_isMarkedHere 16 = .ok (.invokevirtual 53, 3) := by decide +kernel
theorem dL_isMarkedHere_19 : decode cL_isMarkedHere 19 = .ok (.bipush 100, 2) := by decide +kernel
theorem dL_isMarkedHere_21 : decode cL_isMarkedHere 21 = .ok (.idiv, 1) := by decide +kernel
theorem dL_isMarkedHere_22 : decode cL_isMarkedHere 22 = .ok (.invokevirtual 29, 3) := by decide +kernel
theorem dL_isMarkedHere_25 : decode cL_isMarkedHere 25 = .ok (.ifCond .eq 7, 3) := by decide +kernel
theorem dL_isMarkedHere_28 : decode cL_isMarkedHere 28 = .ok (.iconst 1, 1) := by decide +kernel
theorem dL_isMarkedHere_29 : decode cL_isMarkedHere 29 = .ok (.goto 4, 3) := by decide +kernel
theorem dL_isMarkedHere_32 : decode cL_isMarkedHere 32 = .ok (.iconst 0, 1) := by decide +kernel
theorem dL_isMarkedHere_33 : decode cL_isMarkedHere 33 = .ok (.ireturn, 1) := by decide +kernel
