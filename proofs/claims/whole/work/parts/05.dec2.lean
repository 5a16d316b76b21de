theorem dX3_init_0 : decode cX3_init 0 = .ok (.aload_n 0, 1) := by decide +kernel
theorem dX3_init_1 : decode cX3_init 1 = .ok (.invokespecial 1, 3) := by decide +kernel
theorem dX3_init_4 : decode cX3_init 4 = .ok (.aload_n 0, 1) := by decide +kernel
theorem dX3_init_5 : decode cX3_init 5 = .ok (.bipush 32, 2) := by decide +kernel
theorem dX3_init_7 : decode cX3_init 7 = .ok (.newarray .int, 2) := by decide +kernel
theorem dX3_init_9 : decode cX3_init 9 = .ok (.putfield 7, 3) := by decide +kernel
theorem dX3_init_12 : decode cX3_init 12 = .ok (.aload_n 0, 1) := by decide +kernel
theorem dX3_init_13 : decode cX3_init 13 = .ok (.bipush 32, 2) := by decide +kernel
theorem dX3_init_15 : decode cX3_init 15 = .ok (.newarray .int, 2) := by decide +kernel
theorem dX3_init_17 : decode cX3_init 17 = .ok (.putfield 13, 3) := by decide +kernel
theorem dX3_init_20 : decode cX3_init 20 = .ok (.aload_n 0, 1) := by decide +kernel
theorem dX3_init_21 : decode cX3_init 21 = .ok (.bipush 32, 2) := by decide +kernel
theorem dX3_init_23 : decode cX3_init 23 = .ok (.newarray .int, 2) := by decide +kernel
theorem dX3_init_25 : decode cX3_init 25 = .ok (.putfield 16, 3) := by decide +kernel
theorem dX3_init_28 : decode cX3_init 28 = .ok (.aload_n 0, 1) := by decide +kernel
theorem dX3_init_29 : decode cX3_init 29 = .ok (.iconst 3, 1) := by decide +kernel
theorem dX3_init_30 : decode cX3_init 30 = .ok (.newarray .int, 2) := by decide +kernel
theorem dX3_init_32 : decode cX3_init 32 = .ok (.putfield 19, 3) := by decide +kernel
theorem dX3_init_35 : decode cX3_init 35 = .ok (.aload_n 0, 1) := by decide +kernel
theorem dX3_init_36 : decode cX3_init 36 = .ok (.sipush 320, 3) := by decide +kernel
theorem dX3_init_39 : decode cX3_init 39 = .ok (.newarray .int, 2) := by decide +kernel
theorem dX3_init_41 : decode cX3_init 41 = .ok (.putfield 22, 3) := by decide +kernel
theorem dX3_init_44 : decode cX3_init 44 = .ok (.aload_n 0, 1) := by decide +kernel
theorem dX3_init_45 : decode cX3_init 45 = .ok (.sipush 320, 3) := by decide +kernel
theorem dX3_init_48 : decode cX3_init 48 = .ok (.newarray .int, 2) := by decide +kernel
theorem dX3_init_50 : decode cX3_init 50 = .ok (.putfield 25, 3) := by decide +kernel
theorem dX3_init_53 : decode cX3_init 53 = .ok (.aload_n 0, 1) := by decide +kernel
theorem dX3_init_54 : decode cX3_init 54 = .ok (.getfield 19, 3) := by decide +kernel
theorem dX3_init_57 : decode cX3_init 57 = .ok (.iconst 0, 1) := by decide +kernel
theorem dX3_init_58 : decode cX3_init 58 = .ok (.sipush 500, 3) := by decide +kernel
theorem dX3_init_61 : decode cX3_init 61 = .ok (.iastore, 1) := by decide +kernel
theorem dX3_init_62 : decode cX3_init 62 = .ok (.aload_n 0, 1) := by decide +kernel
theorem dX3_init_63 : decode cX3_init 63 = .ok (.getfield 19, 3) := by decide +kernel
theorem dX3_init_66 : decode cX3_init 66 = .ok (.iconst 1, 1) := by decide +kernel
theorem dX3_init_67 : decode cX3_init 67 = .ok (.sipush 500, 3) := by decide +kernel
theorem dX3_init_70 : decode cX3_init 70 = .ok (.iastore, 1) := by decide +kernel
theorem dX3_init_71 : decode cX3_init 71 = .ok (.aload_n 0, 1) := by decide +kernel
theorem dX3_init_72 : decode cX3_init 72 = .ok (.getfield 19, 3) := by decide +kernel
theorem dX3_init_75 : decode cX3_init 75 = .ok (.iconst 2, 1) := by decide +kernel
theorem dX3_init_76 : decode cX3_init 76 = .ok (.sipush 500, 3) := by decide +kernel
theorem dX3_init_79 : decode cX3_init 79 = .ok (.iastore, 1) := by decide +kernel
theorem dX3_init_80 : decode cX3_init 80 = .ok (.return_, 1) := by decide +kernel
theorem dX3_thrown_0 : decode cX3_thrown 0 = .ok (.aload_n 0, 1) := by decide +kernel
theorem dX3_thrown_1 : decode cX3_thrown 1 = .ok (.getfield 28, 3) := by decide +kernel
theorem dX3_thrown_4 : decode cX3_thrown 4 = .ok (.ireturn, 1) := by decide +kernel
theorem dX3_goes_0 : decode cX3_goes 0 = .ok (.aload_n 0, 1) := by decide +kernel
theorem dX3_goes_1 : decode cX3_goes 1 = .ok (.iload_n 1, 1) := by decide +kernel
theorem dX3_goes_2 : decode cX3_goes 2 = .ok (.putfield 28, 3) := by decide +kernel
theorem dX3_goes_5 : decode cX3_goes 5 = .ok (.iload_n 1, 1) := by decide +kernel
theorem dX3_goes_6 : decode cX3_goes 6 = .ok (.ifCond .ne 7, 3) := by decide +kernel
theorem dX3_goes_9 : decode cX3_goes 9 = .ok (.iconst 1, 1) := by decide +kernel
theorem dX3_goes_10 : decode cX3_goes 10 = .ok (.goto 4, 3) := by decide +kernel
theorem dX3_goes_13 : decode cX3_goes 13 = .ok (.iconst 0, 1) := by decide +kernel
theorem dX3_goes_14 : decode cX3_goes 14 = .ok (.ireturn, 1) := by decide +kernel
theorem dX3_isIn_0 : decode cX3_isIn 0 = .ok (.iload_n 0, 1) := by decide +kernel
theorem dX3_isIn_1 : decode cX3_isIn 1 = .ok (.iload_n 1, 1) := by decide +kernel
theorem dX3_isIn_2 : decode cX3_isIn 2 = .ok (.if_icmp .lt 12, 3) := by decide +kernel
theorem dX3_isIn_5 : decode cX3_isIn 5 = .ok (.iload_n 0, 1) := by decide +kernel
theorem dX3_isIn_6 : decode cX3_isIn 6 = .ok (.iload_n 2, 1) := by decide +kernel
theorem dX3_isIn_7 : decode cX3_isIn 7 = .ok (.if_icmp .gt 7, 3) := by decide +kernel
theorem dX3_isIn_10 : decode cX3_isIn 10 = .ok (.iconst 1, 1) := by decide +kernel
theorem dX3_isIn_11 : decode cX3_isIn 11 = .ok (.goto 4, 3) := by decide +kernel
theorem dX3_isIn_14 : decode cX3_isIn 14 = .ok (.iconst 0, 1) := by decide +kernel
theorem dX3_isIn_15 : decode cX3_isIn 15 = .ok (.ireturn, 1) := by decide +kernel
theorem dX3_isCell_0 : decode cX3_isCell 0 = .ok (.iload_n 0, 1) := by decide +kernel
theorem dX3_isCell_1 : decode cX3_isCell 1 = .ok (.iconst 0, 1) := by decide +kernel
theorem dX3_isCell_2 : decode cX3_isCell 2 = .ok (.bipush 99, 2) := by decide +kernel
theorem dX3_isCell_4 : decode cX3_isCell 4 = .ok (.invokestatic 32, 3) := by decide +kernel
theorem dX3_isCell_7 : decode cX3_isCell 7 = .ok (.ifCond .eq 17, 3) := by decide +kernel
theorem dX3_isCell_10 : decode cX3_isCell 10 = .ok (.iload_n 1, 1) := by decide +kernel
theorem dX3_isCell_11 : decode cX3_isCell 11 = .ok (.iconst 0, 1) := by decide +kernel
theorem dX3_isCell_12 : decode cX3_isCell 12 = .ok (.bipush 99, 2) := by decide +kernel
theorem dX3_isCell_14 : decode cX3_isCell 14 = .ok (.invokestatic 32, 3) := by decide +kernel
theorem dX3_isCell_17 : decode cX3_isCell 17 = .ok (.ifCond .eq 7, 3) := by decide +kernel
theorem dX3_isCell_20 : decode cX3_isCell 20 = .ok (.iconst 1, 1) := by decide +kernel
theorem dX3_isCell_21 : decode cX3_isCell 21 = .ok (.goto 4, 3) := by decide +kernel
theorem dX3_isCell_24 : decode cX3_isCell 24 = .ok (.iconst 0, 1) := by decide +kernel
theorem dX3_isCell_25 : decode cX3_isCell 25 = .ok (.ireturn, 1) := by decide +kernel
theorem dX3_size_0 : decode cX3_size 0 = .ok (.iload_n 0, 1) := by decide +kernel
theorem dX3_size_1 : decode cX3_size 1 = .ok (.ifCond .ge 8, 3) := by decide +kernel
theorem dX3_size_4 : decode cX3_size 4 = .ok (.iload_n 0, 1) := by decide +kernel
theorem dX3_size_5 : decode cX3_size 5 = .ok (.ineg, 1) := by decide +kernel
theorem dX3_size_6 : decode cX3_size 6 = .ok (.goto 4, 3) := by decide +kernel
theorem dX3_size_9 : decode cX3_size 9 = .ok (.iload_n 0, 1) := by decide +kernel
theorem dX3_size_10 : decode cX3_size 10 = .ok (.ireturn, 1) := by decide +kernel
theorem dX3_steps_0 : decode cX3_steps 0 = .ok (.iload_n 0, 1) := by decide +kernel
theorem dX3_steps_1 : decode cX3_steps 1 = .ok (.invokestatic 36, 3) := by decide +kernel
theorem dX3_steps_4 : decode cX3_steps 4 = .ok (.iload_n 1, 1) := by decide +kernel
theorem dX3_steps_5 : decode cX3_steps 5 = .ok (.invokestatic 36, 3) := by decide +kernel
theorem dX3_steps_8 : decode cX3_steps 8 = .ok (.if_icmp .le 10, 3) := by decide +kernel
theorem dX3_steps_11 : decode cX3_steps 11 = .ok (.iload_n 0, 1) := by decide +kernel
theorem dX3_steps_12 : decode cX3_steps 12 = .ok (.invokestatic 36, 3) := by decide +kernel
theorem dX3_steps_15 : decode cX3_steps 15 = .ok (.goto 7, 3) := by decide +kernel
theorem dX3_steps_18 : decode cX3_steps 18 = .ok (.iload_n 1, 1) := by decide +kernel
theorem dX3_steps_19 : decode cX3_steps 19 = .ok (.invokestatic 36, 3) := by decide +kernel
theorem dX3_steps_22 : decode cX3_steps 22 = .ok (.ireturn, 1) := by decide +kernel
theorem dX3_draws_0 : decode cX3_draws 0 = .ok (.iload_n 1, 1) := by decide +kernel
theorem dX3_draws_1 : decode cX3_draws 1 = .ok (.iload_n 2, 1) := by decide +kernel
theorem dX3_draws_2 : decode cX3_draws 2 = .ok (.invokestatic 40, 3) := by decide +kernel
theorem dX3_draws_5 : decode cX3_draws 5 = .ok (.istore_n 3, 1) := by decide +kernel
theorem dX3_draws_6 : decode cX3_draws 6 = .ok (.iconst 0, 1) := by decide +kernel
theorem dX3_draws_7 : decode cX3_draws 7 = .ok (.istore 4, 2) := by decide +kernel
theorem dX3_draws_9 : decode cX3_draws 9 = .ok (.iload 4, 2) := by decide +kernel
theorem dX3_draws_11 : decode cX3_draws 11 = .ok (.iload_n 3, 1) := by decide +kernel
theorem dX3_draws_12 : decode cX3_draws 12 = .ok (.if_icmp .gt 57, 3) := by decide +kernel
theorem dX3_draws_15 : decode cX3_draws 15 = .ok (.bipush 100, 2) := by decide +kernel
theorem dX3_draws_17 : decode cX3_draws 17 = .ok (.aload_n 0, 1) := by decide +kernel
theorem dX3_draws_18 : decode cX3_draws 18 = .ok (.getfield 44, 3) := by decide +kernel
theorem dX3_draws_21 : decode cX3_draws 21 = .ok (.iload_n 2, 1) := by decide +kernel
theorem dX3_draws_22 : decode cX3_draws 22 = .ok (.iload 4, 2) := by decide +kernel
theorem dX3_draws_24 : decode cX3_draws 24 = .ok (.imul, 1) := by decide +kernel
theorem dX3_draws_25 : decode cX3_draws 25 = .ok (.iload_n 3, 1) := by decide +kernel
theorem dX3_draws_26 : decode cX3_draws 26 = .ok (.idiv, 1) := by decide +kernel
theorem dX3_draws_27 : decode cX3_draws 27 = .ok (.iadd, 1) := by decide +kernel
theorem dX3_draws_28 : decode cX3_draws 28 = .ok (.imul, 1) := by decide +kernel
theorem dX3_draws_29 : decode cX3_draws 29 = .ok (.aload_n 0, 1) := by decide +kernel
theorem dX3_draws_30 : decode cX3_draws 30 = .ok (.getfield 47, 3) := by decide +kernel
theorem dX3_draws_33 : decode cX3_draws 33 = .ok (.iadd, 1) := by decide +kernel
theorem dX3_draws_34 : decode cX3_draws 34 = .ok (.iload_n 1, 1) := by decide +kernel
theorem dX3_draws_35 : decode cX3_draws 35 = .ok (.iload 4, 2) := by decide +kernel
theorem dX3_draws_37 : decode cX3_draws 37 = .ok (.imul, 1) := by decide +kernel
theorem dX3_draws_38 : decode cX3_draws 38 = .ok (.iload_n 3, 1) := by decide +kernel
theorem dX3_draws_39 : decode cX3_draws 39 = .ok (.idiv, 1) := by decide +kernel
theorem dX3_draws_40 : decode cX3_draws 40 = .ok (.iadd, 1) := by decide +kernel
theorem dX3_draws_41 : decode cX3_draws 41 = .ok (.istore 5, 2) := by decide +kernel
theorem dX3_draws_43 : decode cX3_draws 43 = .ok (.aload_n 0, 1) := by decide +kernel
theorem dX3_draws_44 : decode cX3_draws 44 = .ok (.getfield 25, 3) := by decide +kernel
theorem dX3_draws_47 : decode cX3_draws 47 = .ok (.iload 5, 2) := by decide +kernel
theorem dX3_draws_49 : decode cX3_draws 49 = .ok (.bipush 32, 2) := by decide +kernel
theorem dX3_draws_51 : decode cX3_draws 51 = .ok (.idiv, 1) := by decide +kernel
theorem dX3_draws_52 : decode cX3_draws 52 = .ok (.dup2, 1) := by decide +kernel
theorem dX3_draws_53 : decode cX3_draws 53 = .ok (.iaload, 1) := by decide +kernel
theorem dX3_draws_54 : decode cX3_draws 54 = .ok (.iconst 1, 1) := by decide +kernel
theorem dX3_draws_55 : decode cX3_draws 55 = .ok (.iload 5, 2) := by decide +kernel
theorem dX3_draws_57 : decode cX3_draws 57 = .ok (.bipush 32, 2) := by decide +kernel
theorem dX3_draws_59 : decode cX3_draws 59 = .ok (.irem, 1) := by decide +kernel
theorem dX3_draws_60 : decode cX3_draws 60 = .ok (.ishl, 1) := by decide +kernel
theorem dX3_draws_61 : decode cX3_draws 61 = .ok (.ior, 1) := by decide +kernel
theorem dX3_draws_62 : decode cX3_draws 62 = .ok (.iastore, 1) := by decide +kernel
theorem dX3_draws_63 : decode cX3_draws 63 = .ok (.iinc 4 1, 3) := by decide +kernel
theorem dX3_draws_66 : decode cX3_draws 66 = .ok (.goto (-57), 3) := by decide +kernel
theorem dX3_draws_69 : decode cX3_draws 69 = .ok (.return_, 1) := by decide +kernel
theorem dX3_queues_0 : decode cX3_queues 0 = .ok (.iload_n 1, 1) := by decide +kernel
theorem dX3_queues_1 : decode cX3_queues 1 = .ok (.iconst 3, 1) := by decide +kernel
theorem dX3_queues_2 : decode cX3_queues 2 = .ok (.if_icmp .ne 7, 3) := by decide +kernel
theorem dX3_queues_5 : decode cX3_queues 5 = .ok (.iconst 1, 1) := by decide +kernel
theorem dX3_queues_6 : decode cX3_queues 6 = .ok (.goto 4, 3) := by decide +kernel
theorem dX3_queues_9 : decode cX3_queues 9 = .ok (.iconst 0, 1) := by decide +kernel
theorem dX3_queues_10 : decode cX3_queues 10 = .ok (.istore 4, 2) := by decide +kernel
theorem dX3_queues_12 : decode cX3_queues 12 = .ok (.iload 4, 2) := by decide +kernel
theorem dX3_queues_14 : decode cX3_queues 14 = .ok (.ifCond .eq 12, 3) := by decide +kernel
theorem dX3_queues_17 : decode cX3_queues 17 = .ok (.iload_n 2, 1) := by decide +kernel
theorem dX3_queues_18 : decode cX3_queues 18 = .ok (.iconst 0, 1) := by decide +kernel
theorem dX3_queues_19 : decode cX3_queues 19 = .ok (.iconst 2, 1) := by decide +kernel
theorem dX3_queues_20 : decode cX3_queues 20 = .ok (.invokestatic 32, 3) := by decide +kernel
theorem dX3_queues_23 : decode cX3_queues 23 = .ok (.goto 34, 3) := by decide +kernel
theorem dX3_queues_26 : decode cX3_queues 26 = .ok (.iload_n 2, 1) := by decide +kernel
theorem dX3_queues_27 : decode cX3_queues 27 = .ok (.ifCond .ne 7, 3) := by decide +kernel
theorem dX3_queues_30 : decode cX3_queues 30 = .ok (.iload_n 3, 1) := by decide +kernel
theorem dX3_queues_31 : decode cX3_queues 31 = .ok (.ifCond .eq 25, 3) := by decide +kernel
theorem dX3_queues_34 : decode cX3_queues 34 = .ok (.aload_n 0, 1) := by decide +kernel
theorem dX3_queues_35 : decode cX3_queues 35 = .ok (.getfield 47, 3) := by decide +kernel
theorem dX3_queues_38 : decode cX3_queues 38 = .ok (.iload_n 2, 1) := by decide +kernel
theorem dX3_queues_39 : decode cX3_queues 39 = .ok (.iadd, 1) := by decide +kernel
theorem dX3_queues_40 : decode cX3_queues 40 = .ok (.aload_n 0, 1) := by decide +kernel
theorem dX3_queues_41 : decode cX3_queues 41 = .ok (.getfield 44, 3) := by decide +kernel
theorem dX3_queues_44 : decode cX3_queues 44 = .ok (.iload_n 3, 1) := by decide +kernel
theorem dX3_queues_45 : decode cX3_queues 45 = .ok (.iadd, 1) := by decide +kernel
theorem dX3_queues_46 : decode cX3_queues 46 = .ok (.invokestatic 50, 3) := by decide +kernel
theorem dX3_queues_49 : decode cX3_queues 49 = .ok (.ifCond .eq 7, 3) := by decide +kernel
theorem dX3_queues_52 : decode cX3_queues 52 = .ok (.iconst 1, 1) := by decide +kernel
theorem dX3_queues_53 : decode cX3_queues 53 = .ok (.goto 4, 3) := by decide +kernel
theorem dX3_queues_56 : decode cX3_queues 56 = .ok (.iconst 0, 1) := by decide +kernel
theorem dX3_queues_57 : decode cX3_queues 57 = .ok (.istore 5, 2) := by decide +kernel
theorem dX3_queues_59 : decode cX3_queues 59 = .ok (.iload 5, 2) := by decide +kernel
theorem dX3_queues_61 : decode cX3_queues 61 = .ok (.ifCond .ne 15, 3) := by decide +kernel
theorem dX3_queues_64 : decode cX3_queues 64 = .ok (.aload_n 0, 1) := by decide +kernel
theorem dX3_queues_65 : decode cX3_queues 65 = .ok (.dup, 1) := by decide +kernel
theorem dX3_queues_66 : decode cX3_queues 66 = .ok (.getfield 54, 3) := by decide +kernel
theorem dX3_queues_69 : decode cX3_queues 69 = .ok (.iconst 1, 1) := by decide +kernel
theorem dX3_queues_70 : decode cX3_queues 70 = .ok (.iadd, 1) := by decide +kernel
theorem dX3_queues_71 : decode cX3_queues 71 = .ok (.putfield 54, 3) := by decide +kernel
theorem dX3_queues_74 : decode cX3_queues 74 = .ok (.iconst 0, 1) := by decide +kernel
theorem dX3_queues_75 : decode cX3_queues 75 = .ok (.ireturn, 1) := by decide +kernel
theorem dX3_queues_76 : decode cX3_queues 76 = .ok (.aload_n 0, 1) := by decide +kernel
theorem dX3_queues_77 : decode cX3_queues 77 = .ok (.getfield 7, 3) := by decide +kernel
theorem dX3_queues_80 : decode cX3_queues 80 = .ok (.aload_n 0, 1) := by decide +kernel
theorem dX3_queues_81 : decode cX3_queues 81 = .ok (.getfield 57, 3) := by decide +kernel
theorem dX3_queues_84 : decode cX3_queues 84 = .ok (.iload_n 1, 1) := by decide +kernel
theorem dX3_queues_85 : decode cX3_queues 85 = .ok (.iastore, 1) := by decide +kernel
theorem dX3_queues_86 : decode cX3_queues 86 = .ok (.aload_n 0, 1) := by decide +kernel
theorem dX3_queues_87 : decode cX3_queues 87 = .ok (.getfield 13, 3) := by decide +kernel
theorem dX3_queues_90 : decode cX3_queues 90 = .ok (.aload_n 0, 1) := by decide +kernel
theorem dX3_queues_91 : decode cX3_queues 91 = .ok (.getfield 57, 3) := by decide +kernel
theorem dX3_queues_94 : decode cX3_queues 94 = .ok (.iload_n 2, 1) := by decide +kernel
theorem dX3_queues_95 : decode cX3_queues 95 = .ok (.iastore, 1) := by decide +kernel
theorem dX3_queues_96 : decode cX3_queues 96 = .ok (.aload_n 0, 1) := by decide +kernel
theorem dX3_queues_97 : decode cX3_queues 97 = .ok (.getfield 16, 3) := by decide +kernel
theorem dX3_queues_100 : decode cX3_queues 100 = .ok (.aload_n 0, 1) := by decide +kernel
theorem dX3_queues_101 : decode cX3_queues 101 = .ok (.getfield 57, 3) := by decide +kernel
theorem dX3_queues_104 : decode cX3_queues 104 = .ok (.iload_n 3, 1) := by decide +kernel
theorem dX3_queues_105 : decode cX3_queues 105 = .ok (.iastore, 1) := by decide +kernel
theorem dX3_queues_106 : decode cX3_queues 106 = .ok (.aload_n 0, 1) := by decide +kernel
theorem dX3_queues_107 : decode cX3_queues 107 = .ok (.dup, 1) := by decide +kernel
theorem dX3_queues_108 : decode cX3_queues 108 = .ok (.getfield 57, 3) := by decide +kernel
theorem dX3_queues_111 : decode cX3_queues 111 = .ok (.iconst 1, 1) := by decide +kernel
theorem dX3_queues_112 : decode cX3_queues 112 = .ok (.iadd, 1) := by decide +kernel
theorem dX3_queues_113 : decode cX3_queues 113 = .ok (.putfield 57, 3) := by decide +kernel
theorem dX3_queues_116 : decode cX3_queues 116 = .ok (.iload_n 1, 1) := by decide +kernel
theorem dX3_queues_117 : decode cX3_queues 117 = .ok (.iconst 2, 1) := by decide +kernel
theorem dX3_queues_118 : decode cX3_queues 118 = .ok (.if_icmp .ne 9, 3) := by decide +kernel
theorem dX3_queues_121 : decode cX3_queues 121 = .ok (.aload_n 0, 1) := by decide +kernel
theorem dX3_queues_122 : decode cX3_queues 122 = .ok (.iload_n 2, 1) := by decide +kernel
theorem dX3_queues_123 : decode cX3_queues 123 = .ok (.iload_n 3, 1) := by decide +kernel
theorem dX3_queues_124 : decode cX3_queues 124 = .ok (.invokevirtual 60, 3) := by decide +kernel
theorem dX3_queues_127 : decode cX3_queues 127 = .ok (.aload_n 0, 1) := by decide +kernel
theorem dX3_queues_128 : decode cX3_queues 128 = .ok (.dup, 1) := by decide +kernel
theorem dX3_queues_129 : decode cX3_queues 129 = .ok (.getfield 47, 3) := by decide +kernel
theorem dX3_queues_132 : decode cX3_queues 132 = .ok (.iload 4, 2) := by decide +kernel
theorem dX3_queues_134 : decode cX3_queues 134 = .ok (.ifCond .eq 7, 3) := by decide +kernel
theorem dX3_queues_137 : decode cX3_queues 137 = .ok (.iconst 0, 1) := by decide +kernel
theorem dX3_queues_138 : decode cX3_queues 138 = .ok (.goto 4, 3) := by decide +kernel
theorem dX3_queues_141 : decode cX3_queues 141 = .ok (.iload_n 2, 1) := by decide +kernel
theorem dX3_queues_142 : decode cX3_queues 142 = .ok (.iadd, 1) := by decide +kernel
theorem dX3_queues_143 : decode cX3_queues 143 = .ok (.putfield 47, 3) := by decide +kernel
theorem dX3_queues_146 : decode cX3_queues 146 = .ok (.aload_n 0, 1) := by decide +kernel
theorem dX3_queues_147 : decode cX3_queues 147 = .ok (.dup, 1) := by decide +kernel
theorem dX3_queues_148 : decode cX3_queues 148 = .ok (.getfield 44, 3) := by decide +kernel
theorem dX3_queues_151 : decode cX3_queues 151 = .ok (.iload 4, 2) := by decide +kernel
theorem dX3_queues_153 : decode cX3_queues 153 = .ok (.ifCond .eq 7, 3) := by decide +kernel
theorem dX3_queues_156 : decode cX3_queues 156 = .ok (.iconst 0, 1) := by decide +kernel
theorem dX3_queues_157 : decode cX3_queues 157 = .ok (.goto 4, 3) := by decide +kernel
theorem dX3_queues_160 : decode cX3_queues 160 = .ok (.iload_n 3, 1) := by decide +kernel
theorem dX3_queues_161 : decode cX3_queues 161 = .ok (.iadd, 1) := by decide +kernel
theorem dX3_queues_162 : decode cX3_queues 162 = .ok (.putfield 44, 3) := by decide +kernel
theorem dX3_queues_165 : decode cX3_queues 165 = .ok (.iconst 1, 1) := by decide +kernel
theorem dX3_queues_166 : decode cX3_queues 166 = .ok (.ireturn, 1) := by decide +kernel
theorem dX3_repeats_0 : decode cX3_repeats 0 = .ok (.iload_n 1, 1) := by decide +kernel
theorem dX3_repeats_1 : decode cX3_repeats 1 = .ok (.iconst 1, 1) := by decide +kernel
theorem dX3_repeats_2 : decode cX3_repeats 2 = .ok (.bipush 9, 2) := by decide +kernel
theorem dX3_repeats_4 : decode cX3_repeats 4 = .ok (.invokestatic 32, 3) := by decide +kernel
theorem dX3_repeats_7 : decode cX3_repeats 7 = .ok (.ifCond .eq 10, 3) := by decide +kernel
theorem dX3_repeats_10 : decode cX3_repeats 10 = .ok (.aload_n 0, 1) := by decide +kernel
theorem dX3_repeats_11 : decode cX3_repeats 11 = .ok (.getfield 64, 3) := by decide +kernel
theorem dX3_repeats_14 : decode cX3_repeats 14 = .ok (.ifCond .ne 14, 3) := by decide +kernel
theorem dX3_repeats_17 : decode cX3_repeats 17 = .ok (.aload_n 0, 1) := by decide +kernel
theorem dX3_repeats_18 : decode cX3_repeats 18 = .ok (.dup, 1) := by decide +kernel
theorem dX3_repeats_19 : decode cX3_repeats 19 = .ok (.getfield 54, 3) := by decide +kernel
theorem dX3_repeats_22 : decode cX3_repeats 22 = .ok (.iconst 1, 1) := by decide +kernel
theorem dX3_repeats_23 : decode cX3_repeats 23 = .ok (.iadd, 1) := by decide +kernel
theorem dX3_repeats_24 : decode cX3_repeats 24 = .ok (.putfield 54, 3) := by decide +kernel
theorem dX3_repeats_27 : decode cX3_repeats 27 = .ok (.return_, 1) := by decide +kernel
theorem dX3_repeats_28 : decode cX3_repeats 28 = .ok (.iconst 0, 1) := by decide +kernel
theorem dX3_repeats_29 : decode cX3_repeats 29 = .ok (.istore_n 2, 1) := by decide +kernel
theorem dX3_repeats_30 : decode cX3_repeats 30 = .ok (.iload_n 2, 1) := by decide +kernel
theorem dX3_repeats_31 : decode cX3_repeats 31 = .ok (.iload_n 1, 1) := by decide +kernel
theorem dX3_repeats_32 : decode cX3_repeats 32 = .ok (.if_icmp .ge 26, 3) := by decide +kernel
theorem dX3_repeats_35 : decode cX3_repeats 35 = .ok (.aload_n 0, 1) := by decide +kernel
theorem dX3_repeats_36 : decode cX3_repeats 36 = .ok (.aload_n 0, 1) := by decide +kernel
theorem dX3_repeats_37 : decode cX3_repeats 37 = .ok (.getfield 64, 3) := by decide +kernel
theorem dX3_repeats_40 : decode cX3_repeats 40 = .ok (.aload_n 0, 1) := by decide +kernel
theorem dX3_repeats_41 : decode cX3_repeats 41 = .ok (.getfield 67, 3) := by decide +kernel
theorem dX3_repeats_44 : decode cX3_repeats 44 = .ok (.aload_n 0, 1) := by decide +kernel
theorem dX3_repeats_45 : decode cX3_repeats 45 = .ok (.getfield 70, 3) := by decide +kernel
theorem dX3_repeats_48 : decode cX3_repeats 48 = .ok (.invokevirtual 73, 3) := by decide +kernel
theorem dX3_repeats_51 : decode cX3_repeats 51 = .ok (.pop, 1) := by decide +kernel
theorem dX3_repeats_52 : decode cX3_repeats 52 = .ok (.iinc 2 1, 3) := by decide +kernel
theorem dX3_repeats_55 : decode cX3_repeats 55 = .ok (.goto (-25), 3) := by decide +kernel
theorem dX3_repeats_58 : decode cX3_repeats 58 = .ok (.return_, 1) := by decide +kernel
theorem dX3_signed_0 : decode cX3_signed 0 = .ok (.iload_n 0, 1) := by decide +kernel
theorem dX3_signed_1 : decode cX3_signed 1 = .ok (.bipush 127, 2) := by decide +kernel
theorem dX3_signed_3 : decode cX3_signed 3 = .ok (.if_icmp .le 11, 3) := by decide +kernel
theorem dX3_signed_6 : decode cX3_signed 6 = .ok (.iload_n 0, 1) := by decide +kernel
theorem dX3_signed_7 : decode cX3_signed 7 = .ok (.sipush 256, 3) := by decide +kernel
theorem dX3_signed_10 : decode cX3_signed 10 = .ok (.isub, 1) := by decide +kernel
theorem dX3_signed_11 : decode cX3_signed 11 = .ok (.goto 4, 3) := by decide +kernel
theorem dX3_signed_14 : decode cX3_signed 14 = .ok (.iload_n 0, 1) := by decide +kernel
theorem dX3_signed_15 : decode cX3_signed 15 = .ok (.ireturn, 1) := by decide +kernel
theorem dX3_isWhole_0 : decode cX3_isWhole 0 = .ok (.aload_n 0, 1) := by decide +kernel
theorem dX3_isWhole_1 : decode cX3_isWhole 1 = .ok (.getfield 76, 3) := by decide +kernel
theorem dX3_isWhole_4 : decode cX3_isWhole 4 = .ok (.iconst 4, 1) := by decide +kernel
theorem dX3_isWhole_5 : decode cX3_isWhole 5 = .ok (.if_icmp .ne 11, 3) := by decide +kernel
theorem dX3_isWhole_8 : decode cX3_isWhole 8 = .ok (.aload_n 0, 1) := by decide +kernel
theorem dX3_isWhole_9 : decode cX3_isWhole 9 = .ok (.iload_n 1, 1) := by decide +kernel
theorem dX3_isWhole_10 : decode cX3_isWhole 10 = .ok (.invokevirtual 79, 3) := by decide +kernel
theorem dX3_isWhole_13 : decode cX3_isWhole 13 = .ok (.goto 71, 3) := by decide +kernel
theorem dX3_isWhole_16 : decode cX3_isWhole 16 = .ok (.aload_n 0, 1) := by decide +kernel
theorem dX3_isWhole_17 : decode cX3_isWhole 17 = .ok (.getfield 76, 3) := by decide +kernel
theorem dX3_isWhole_20 : decode cX3_isWhole 20 = .ok (.iconst 3, 1) := by decide +kernel
theorem dX3_isWhole_21 : decode cX3_isWhole 21 = .ok (.if_icmp .ne 14, 3) := by decide +kernel
theorem dX3_isWhole_24 : decode cX3_isWhole 24 = .ok (.aload_n 0, 1) := by decide +kernel
theorem dX3_isWhole_25 : decode cX3_isWhole 25 = .ok (.iconst 3, 1) := by decide +kernel
theorem dX3_isWhole_26 : decode cX3_isWhole 26 = .ok (.iload_n 1, 1) := by decide +kernel
theorem dX3_isWhole_27 : decode cX3_isWhole 27 = .ok (.iconst 0, 1) := by decide +kernel
theorem dX3_isWhole_28 : decode cX3_isWhole 28 = .ok (.invokevirtual 73, 3) := by decide +kernel
theorem dX3_isWhole_31 : decode cX3_isWhole 31 = .ok (.pop, 1) := by decide +kernel
theorem dX3_isWhole_32 : decode cX3_isWhole 32 = .ok (.goto 52, 3) := by decide +kernel
theorem dX3_isWhole_35 : decode cX3_isWhole 35 = .ok (.aload_n 0, 1) := by decide +kernel
theorem dX3_isWhole_36 : decode cX3_isWhole 36 = .ok (.aload_n 0, 1) := by decide +kernel
theorem dX3_isWhole_37 : decode cX3_isWhole 37 = .ok (.getfield 76, 3) := by decide +kernel
theorem dX3_isWhole_40 : decode cX3_isWhole 40 = .ok (.aload_n 0, 1) := by decide +kernel
theorem dX3_isWhole_41 : decode cX3_isWhole 41 = .ok (.getfield 83, 3) := by decide +kernel
theorem dX3_isWhole_44 : decode cX3_isWhole 44 = .ok (.invokestatic 86, 3) := by decide +kernel
theorem dX3_isWhole_47 : decode cX3_isWhole 47 = .ok (.iload_n 1, 1) := by decide +kernel
theorem dX3_isWhole_48 : decode cX3_isWhole 48 = .ok (.invokestatic 86, 3) := by decide +kernel
theorem dX3_isWhole_51 : decode cX3_isWhole 51 = .ok (.invokevirtual 73, 3) := by decide +kernel
theorem dX3_isWhole_54 : decode cX3_isWhole 54 = .ok (.ifCond .eq 30, 3) := by decide +kernel
theorem dX3_isWhole_57 : decode cX3_isWhole 57 = .ok (.aload_n 0, 1) := by decide +kernel
theorem dX3_isWhole_58 : decode cX3_isWhole 58 = .ok (.aload_n 0, 1) := by decide +kernel
theorem dX3_isWhole_59 : decode cX3_isWhole 59 = .ok (.getfield 76, 3) := by decide +kernel
theorem dX3_isWhole_62 : decode cX3_isWhole 62 = .ok (.putfield 64, 3) := by decide +kernel
theorem dX3_isWhole_65 : decode cX3_isWhole 65 = .ok (.aload_n 0, 1) := by decide +kernel
theorem dX3_isWhole_66 : decode cX3_isWhole 66 = .ok (.aload_n 0, 1) := by decide +kernel
theorem dX3_isWhole_67 : decode cX3_isWhole 67 = .ok (.getfield 83, 3) := by decide +kernel
theorem dX3_isWhole_70 : decode cX3_isWhole 70 = .ok (.invokestatic 86, 3) := by decide +kernel
theorem dX3_isWhole_73 : decode cX3_isWhole 73 = .ok (.putfield 67, 3) := by decide +kernel
theorem dX3_isWhole_76 : decode cX3_isWhole 76 = .ok (.aload_n 0, 1) := by decide +kernel
theorem dX3_isWhole_77 : decode cX3_isWhole 77 = .ok (.iload_n 1, 1) := by decide +kernel
theorem dX3_isWhole_78 : decode cX3_isWhole 78 = .ok (.invokestatic 86, 3) := by decide +kernel
theorem dX3_isWhole_81 : decode cX3_isWhole 81 = .ok (.putfield 70, 3) := by decide +kernel
theorem dX3_isWhole_84 : decode cX3_isWhole 84 = .ok (.aload_n 0, 1) := by decide +kernel
theorem dX3_isWhole_85 : decode cX3_isWhole 85 = .ok (.iconst 0, 1) := by decide +kernel
theorem dX3_isWhole_86 : decode cX3_isWhole 86 = .ok (.putfield 89, 3) := by decide +kernel
theorem dX3_isWhole_89 : decode cX3_isWhole 89 = .ok (.return_, 1) := by decide +kernel
theorem dX3_feed_0 : decode cX3_feed 0 = .ok (.aload_n 0, 1) := by decide +kernel
theorem dX3_feed_1 : decode cX3_feed 1 = .ok (.iload_n 1, 1) := by decide +kernel
theorem dX3_feed_2 : decode cX3_feed 2 = .ok (.iconst 0, 1) := by decide +kernel
theorem dX3_feed_3 : decode cX3_feed 3 = .ok (.sipush 255, 3) := by decide +kernel
theorem dX3_feed_6 : decode cX3_feed 6 = .ok (.invokestatic 32, 3) := by decide +kernel
theorem dX3_feed_9 : decode cX3_feed 9 = .ok (.ifCond .eq 7, 3) := by decide +kernel
theorem dX3_feed_12 : decode cX3_feed 12 = .ok (.iconst 0, 1) := by decide +kernel
theorem dX3_feed_13 : decode cX3_feed 13 = .ok (.goto 4, 3) := by decide +kernel
theorem dX3_feed_16 : decode cX3_feed 16 = .ok (.iconst 1, 1) := by decide +kernel
theorem dX3_feed_17 : decode cX3_feed 17 = .ok (.invokevirtual 92, 3) := by decide +kernel
theorem dX3_feed_20 : decode cX3_feed 20 = .ok (.ifCond .eq 12, 3) := by decide +kernel
theorem dX3_feed_23 : decode cX3_feed 23 = .ok (.aload_n 0, 1) := by decide +kernel
theorem dX3_feed_24 : decode cX3_feed 24 = .ok (.getfield 57, 3) := by decide +kernel
theorem dX3_feed_27 : decode cX3_feed 27 = .ok (.bipush 8, 2) := by decide +kernel
theorem dX3_feed_29 : decode cX3_feed 29 = .ok (.if_icmp .lt 5, 3) := by decide +kernel
theorem dX3_feed_32 : decode cX3_feed 32 = .ok (.iconst 0, 1) := by decide +kernel
theorem dX3_feed_33 : decode cX3_feed 33 = .ok (.ireturn, 1) := by decide +kernel
theorem dX3_feed_34 : decode cX3_feed 34 = .ok (.aload_n 0, 1) := by decide +kernel
theorem dX3_feed_35 : decode cX3_feed 35 = .ok (.getfield 89, 3) := by decide +kernel
theorem dX3_feed_38 : decode cX3_feed 38 = .ok (.ifCond .ne 53, 3) := by decide +kernel
theorem dX3_feed_41 : decode cX3_feed 41 = .ok (.iload_n 1, 1) := by decide +kernel
theorem dX3_feed_42 : decode cX3_feed 42 = .ok (.iconst 1, 1) := by decide +kernel
theorem dX3_feed_43 : decode cX3_feed 43 = .ok (.iconst 4, 1) := by decide +kernel
theorem dX3_feed_44 : decode cX3_feed 44 = .ok (.invokestatic 32, 3) := by decide +kernel
theorem dX3_feed_47 : decode cX3_feed 47 = .ok (.istore_n 2, 1) := by decide +kernel
theorem dX3_feed_48 : decode cX3_feed 48 = .ok (.aload_n 0, 1) := by decide +kernel
theorem dX3_feed_49 : decode cX3_feed 49 = .ok (.iload_n 1, 1) := by decide +kernel
theorem dX3_feed_50 : decode cX3_feed 50 = .ok (.putfield 76, 3) := by decide +kernel
theorem dX3_feed_53 : decode cX3_feed 53 = .ok (.aload_n 0, 1) := by decide +kernel
theorem dX3_feed_54 : decode cX3_feed 54 = .ok (.iload_n 2, 1) := by decide +kernel
theorem dX3_feed_55 : decode cX3_feed 55 = .ok (.ifCond .eq 7, 3) := by decide +kernel
theorem dX3_feed_58 : decode cX3_feed 58 = .ok (.iconst 1, 1) := by decide +kernel
theorem dX3_feed_59 : decode cX3_feed 59 = .ok (.goto 4, 3) := by decide +kernel
theorem dX3_feed_62 : decode cX3_feed 62 = .ok (.iconst 0, 1) := by decide +kernel
theorem dX3_feed_63 : decode cX3_feed 63 = .ok (.putfield 89, 3) := by decide +kernel
theorem dX3_feed_66 : decode cX3_feed 66 = .ok (.aload_n 0, 1) := by decide +kernel
theorem dX3_feed_67 : decode cX3_feed 67 = .ok (.dup, 1) := by decide +kernel
theorem dX3_feed_68 : decode cX3_feed 68 = .ok (.getfield 54, 3) := by decide +kernel
theorem dX3_feed_71 : decode cX3_feed 71 = .ok (.iload_n 2, 1) := by decide +kernel
theorem dX3_feed_72 : decode cX3_feed 72 = .ok (.ifCond .ne 7, 3) := by decide +kernel
theorem dX3_feed_75 : decode cX3_feed 75 = .ok (.iload_n 1, 1) := by decide +kernel
theorem dX3_feed_76 : decode cX3_feed 76 = .ok (.ifCond .ne 7, 3) := by decide +kernel
theorem dX3_feed_79 : decode cX3_feed 79 = .ok (.iconst 0, 1) := by decide +kernel
theorem dX3_feed_80 : decode cX3_feed 80 = .ok (.goto 4, 3) := by decide +kernel
theorem dX3_feed_83 : decode cX3_feed 83 = .ok (.iconst 1, 1) := by decide +kernel
theorem dX3_feed_84 : decode cX3_feed 84 = .ok (.iadd, 1) := by decide +kernel
theorem dX3_feed_85 : decode cX3_feed 85 = .ok (.putfield 54, 3) := by decide +kernel
theorem dX3_feed_88 : decode cX3_feed 88 = .ok (.goto 37, 3) := by decide +kernel
theorem dX3_feed_91 : decode cX3_feed 91 = .ok (.aload_n 0, 1) := by decide +kernel
theorem dX3_feed_92 : decode cX3_feed 92 = .ok (.getfield 89, 3) := by decide +kernel
theorem dX3_feed_95 : decode cX3_feed 95 = .ok (.iconst 1, 1) := by decide +kernel
theorem dX3_feed_96 : decode cX3_feed 96 = .ok (.if_icmp .ne 24, 3) := by decide +kernel
theorem dX3_feed_99 : decode cX3_feed 99 = .ok (.aload_n 0, 1) := by decide +kernel
theorem dX3_feed_100 : decode cX3_feed 100 = .ok (.getfield 76, 3) := by decide +kernel
theorem dX3_feed_103 : decode cX3_feed 103 = .ok (.iconst 2, 1) := by decide +kernel
theorem dX3_feed_104 : decode cX3_feed 104 = .ok (.if_icmp .gt 16, 3) := by decide +kernel
theorem dX3_feed_107 : decode cX3_feed 107 = .ok (.aload_n 0, 1) := by decide +kernel
theorem dX3_feed_108 : decode cX3_feed 108 = .ok (.iload_n 1, 1) := by decide +kernel
theorem dX3_feed_109 : decode cX3_feed 109 = .ok (.putfield 83, 3) := by decide +kernel
theorem dX3_feed_112 : decode cX3_feed 112 = .ok (.aload_n 0, 1) := by decide +kernel
theorem dX3_feed_113 : decode cX3_feed 113 = .ok (.iconst 2, 1) := by decide +kernel
theorem dX3_feed_114 : decode cX3_feed 114 = .ok (.putfield 89, 3) := by decide +kernel
theorem dX3_feed_117 : decode cX3_feed 117 = .ok (.goto 8, 3) := by decide +kernel
theorem dX3_feed_120 : decode cX3_feed 120 = .ok (.aload_n 0, 1) := by decide +kernel
theorem dX3_feed_121 : decode cX3_feed 121 = .ok (.iload_n 1, 1) := by decide +kernel
theorem dX3_feed_122 : decode cX3_feed 122 = .ok (.invokevirtual 96, 3) := by decide +kernel
theorem dX3_feed_125 : decode cX3_feed 125 = .ok (.iconst 1, 1) := by decide +kernel
theorem dX3_feed_126 : decode cX3_feed 126 = .ok (.ireturn, 1) := by decide +kernel
theorem dX3_errors_0 : decode cX3_errors 0 = .ok (.aload_n 0, 1) := by decide +kernel
theorem dX3_errors_1 : decode cX3_errors 1 = .ok (.iconst 0, 1) := by decide +kernel
theorem dX3_errors_2 : decode cX3_errors 2 = .ok (.putfield 28, 3) := by decide +kernel
theorem dX3_errors_5 : decode cX3_errors 5 = .ok (.aload_n 0, 1) := by decide +kernel
theorem dX3_errors_6 : decode cX3_errors 6 = .ok (.getfield 54, 3) := by decide +kernel
theorem dX3_errors_9 : decode cX3_errors 9 = .ok (.ireturn, 1) := by decide +kernel
theorem dX3_queued_0 : decode cX3_queued 0 = .ok (.aload_n 0, 1) := by decide +kernel
theorem dX3_queued_1 : decode cX3_queued 1 = .ok (.iconst 0, 1) := by decide +kernel
theorem dX3_queued_2 : decode cX3_queued 2 = .ok (.putfield 28, 3) := by decide +kernel
theorem dX3_queued_5 : decode cX3_queued 5 = .ok (.aload_n 0, 1) := by decide +kernel
theorem dX3_queued_6 : decode cX3_queued 6 = .ok (.getfield 57, 3) := by decide +kernel
theorem dX3_queued_9 : decode cX3_queued 9 = .ok (.ireturn, 1) := by decide +kernel
theorem dX3_pending_0 : decode cX3_pending 0 = .ok (.aload_n 0, 1) := by decide +kernel
theorem dX3_pending_1 : decode cX3_pending 1 = .ok (.iconst 0, 1) := by decide +kernel
theorem dX3_pending_2 : decode cX3_pending 2 = .ok (.putfield 28, 3) := by decide +kernel
theorem dX3_pending_5 : decode cX3_pending 5 = .ok (.aload_n 0, 1) := by decide +kernel
theorem dX3_pending_6 : decode cX3_pending 6 = .ok (.getfield 89, 3) := by decide +kernel
theorem dX3_pending_9 : decode cX3_pending 9 = .ok (.ireturn, 1) := by decide +kernel
theorem dX3_marksCell_0 : decode cX3_marksCell 0 = .ok (.bipush 100, 2) := by decide +kernel
theorem dX3_marksCell_2 : decode cX3_marksCell 2 = .ok (.aload_n 0, 1) := by decide +kernel
theorem dX3_marksCell_3 : decode cX3_marksCell 3 = .ok (.getfield 99, 3) := by decide +kernel
theorem dX3_marksCell_6 : decode cX3_marksCell 6 = .ok (.imul, 1) := by decide +kernel
theorem dX3_marksCell_7 : decode cX3_marksCell 7 = .ok (.aload_n 0, 1) := by decide +kernel
theorem dX3_marksCell_8 : decode cX3_marksCell 8 = .ok (.getfield 102, 3) := by decide +kernel
theorem dX3_marksCell_11 : decode cX3_marksCell 11 = .ok (.iadd, 1) := by decide +kernel
theorem dX3_marksCell_12 : decode cX3_marksCell 12 = .ok (.istore_n 1, 1) := by decide +kernel
theorem dX3_marksCell_13 : decode cX3_marksCell 13 = .ok (.aload_n 0, 1) := by decide +kernel
theorem dX3_marksCell_14 : decode cX3_marksCell 14 = .ok (.getfield 22, 3) := by decide +kernel
theorem dX3_marksCell_17 : decode cX3_marksCell 17 = .ok (.iload_n 1, 1) := by decide +kernel
theorem dX3_marksCell_18 : decode cX3_marksCell 18 = .ok (.bipush 32, 2) := by decide +kernel
theorem dX3_marksCell_20 : decode cX3_marksCell 20 = .ok (.idiv, 1) := by decide +kernel
theorem dX3_marksCell_21 : decode cX3_marksCell 21 = .ok (.dup2, 1) := by decide +kernel
theorem dX3_marksCell_22 : decode cX3_marksCell 22 = .ok (.iaload, 1) := by decide +kernel
theorem dX3_marksCell_23 : decode cX3_marksCell 23 = .ok (.iconst 1, 1) := by decide +kernel
theorem dX3_marksCell_24 : decode cX3_marksCell 24 = .ok (.iload_n 1, 1) := by decide +kernel
theorem dX3_marksCell_25 : decode cX3_marksCell 25 = .ok (.bipush 32, 2) := by decide +kernel
theorem dX3_marksCell_27 : decode cX3_marksCell 27 = .ok (.irem, 1) := by decide +kernel
theorem dX3_marksCell_28 : decode cX3_marksCell 28 = .ok (.ishl, 1) := by decide +kernel
theorem dX3_marksCell_29 : decode cX3_marksCell 29 = .ok (.ior, 1) := by decide +kernel
theorem dX3_marksCell_30 : decode cX3_marksCell 30 = .ok (.iastore, 1) := by decide +kernel
theorem dX3_marksCell_31 : decode cX3_marksCell 31 = .ok (.return_, 1) := by decide +kernel
theorem dX3_isDone_0 : decode cX3_isDone 0 = .ok (.aload_n 0, 1) := by decide +kernel
theorem dX3_isDone_1 : decode cX3_isDone 1 = .ok (.dup, 1) := by decide +kernel
theorem dX3_isDone_2 : decode cX3_isDone 2 = .ok (.getfield 57, 3) := by decide +kernel
theorem dX3_isDone_5 : decode cX3_isDone 5 = .ok (.iconst 1, 1) := by decide +kernel
theorem dX3_isDone_6 : decode cX3_isDone 6 = .ok (.isub, 1) := by decide +kernel
theorem dX3_isDone_7 : decode cX3_isDone 7 = .ok (.putfield 57, 3) := by decide +kernel
theorem dX3_isDone_10 : decode cX3_isDone 10 = .ok (.iconst 0, 1) := by decide +kernel
theorem dX3_isDone_11 : decode cX3_isDone 11 = .ok (.istore_n 1, 1) := by decide +kernel
theorem dX3_isDone_12 : decode cX3_isDone 12 = .ok (.iload_n 1, 1) := by decide +kernel
theorem dX3_isDone_13 : decode cX3_isDone 13 = .ok (.aload_n 0, 1) := by decide +kernel
theorem dX3_isDone_14 : decode cX3_isDone 14 = .ok (.getfield 57, 3) := by decide +kernel
theorem dX3_isDone_17 : decode cX3_isDone 17 = .ok (.if_icmp .ge 51, 3) := by decide +kernel
theorem dX3_isDone_20 : decode cX3_isDone 20 = .ok (.aload_n 0, 1) := by decide +kernel
theorem dX3_isDone_21 : decode cX3_isDone 21 = .ok (.getfield 7, 3) := by decide +kernel
theorem dX3_isDone_24 : decode cX3_isDone 24 = .ok (.iload_n 1, 1) := by decide +kernel
theorem dX3_isDone_25 : decode cX3_isDone 25 = .ok (.aload_n 0, 1) := by decide +kernel
theorem dX3_isDone_26 : decode cX3_isDone 26 = .ok (.getfield 7, 3) := by decide +kernel
theorem dX3_isDone_29 : decode cX3_isDone 29 = .ok (.iload_n 1, 1) := by decide +kernel
theorem dX3_isDone_30 : decode cX3_isDone 30 = .ok (.iconst 1, 1) := by decide +kernel
theorem dX3_isDone_31 : decode cX3_isDone 31 = .ok (.iadd, 1) := by decide +kernel
theorem dX3_isDone_32 : decode cX3_isDone 32 = .ok (.iaload, 1) := by decide +kernel
theorem dX3_isDone_33 : decode cX3_isDone 33 = .ok (.iastore, 1) := by decide +kernel
theorem dX3_isDone_34 : decode cX3_isDone 34 = .ok (.aload_n 0, 1) := by decide +kernel
theorem dX3_isDone_35 : decode cX3_isDone 35 = .ok (.getfield 13, 3) := by decide +kernel
theorem dX3_isDone_38 : decode cX3_isDone 38 = .ok (.iload_n 1, 1) := by decide +kernel
theorem dX3_isDone_39 : decode cX3_isDone 39 = .ok (.aload_n 0, 1) := by decide +kernel
theorem dX3_isDone_40 : decode cX3_isDone 40 = .ok (.getfield 13, 3) := by decide +kernel
theorem dX3_isDone_43 : decode cX3_isDone 43 = .ok (.iload_n 1, 1) := by decide +kernel
theorem dX3_isDone_44 : decode cX3_isDone 44 = .ok (.iconst 1, 1) := by decide +kernel
theorem dX3_isDone_45 : decode cX3_isDone 45 = .ok (.iadd, 1) := by decide +kernel
theorem dX3_isDone_46 : decode cX3_isDone 46 = .ok (.iaload, 1) := by decide +kernel
theorem dX3_isDone_47 : decode cX3_isDone 47 = .ok (.iastore, 1) := by decide +kernel
theorem dX3_isDone_48 : decode cX3_isDone 48 = .ok (.aload_n 0, 1) := by decide +kernel
theorem dX3_isDone_49 : decode cX3_isDone 49 = .ok (.getfield 16, 3) := by decide +kernel
theorem dX3_isDone_52 : decode cX3_isDone 52 = .ok (.iload_n 1, 1) := by decide +kernel
theorem dX3_isDone_53 : decode cX3_isDone 53 = .ok (.aload_n 0, 1) := by decide +kernel
theorem dX3_isDone_54 : decode cX3_isDone 54 = .ok (.getfield 16, 3) := by decide +kernel
theorem dX3_isDone_57 : decode cX3_isDone 57 = .ok (.iload_n 1, 1) := by decide +kernel
theorem dX3_isDone_58 : decode cX3_isDone 58 = .ok (.iconst 1, 1) := by decide +kernel
theorem dX3_isDone_59 : decode cX3_isDone 59 = .ok (.iadd, 1) := by decide +kernel
theorem dX3_isDone_60 : decode cX3_isDone 60 = .ok (.iaload, 1) := by decide +kernel
theorem dX3_isDone_61 : decode cX3_isDone 61 = .ok (.iastore, 1) := by decide +kernel
theorem dX3_isDone_62 : decode cX3_isDone 62 = .ok (.iinc 1 1, 3) := by decide +kernel
theorem dX3_isDone_65 : decode cX3_isDone 65 = .ok (.goto (-53), 3) := by decide +kernel
theorem dX3_isDone_68 : decode cX3_isDone 68 = .ok (.aload_n 0, 1) := by decide +kernel
theorem dX3_isDone_69 : decode cX3_isDone 69 = .ok (.iconst 0, 1) := by decide +kernel
theorem dX3_isDone_70 : decode cX3_isDone 70 = .ok (.putfield 105, 3) := by decide +kernel
theorem dX3_isDone_73 : decode cX3_isDone 73 = .ok (.aload_n 0, 1) := by decide +kernel
theorem dX3_isDone_74 : decode cX3_isDone 74 = .ok (.iconst 0, 1) := by decide +kernel
theorem dX3_isDone_75 : decode cX3_isDone 75 = .ok (.putfield 108, 3) := by decide +kernel
theorem dX3_isDone_78 : decode cX3_isDone 78 = .ok (.aload_n 0, 1) := by decide +kernel
theorem dX3_isDone_79 : decode cX3_isDone 79 = .ok (.aload_n 0, 1) := by decide +kernel
theorem dX3_isDone_80 : decode cX3_isDone 80 = .ok (.getfield 102, 3) := by decide +kernel
theorem dX3_isDone_83 : decode cX3_isDone 83 = .ok (.putfield 111, 3) := by decide +kernel
theorem dX3_isDone_86 : decode cX3_isDone 86 = .ok (.aload_n 0, 1) := by decide +kernel
theorem dX3_isDone_87 : decode cX3_isDone 87 = .ok (.aload_n 0, 1) := by decide +kernel
theorem dX3_isDone_88 : decode cX3_isDone 88 = .ok (.getfield 99, 3) := by decide +kernel
theorem dX3_isDone_91 : decode cX3_isDone 91 = .ok (.putfield 114, 3) := by decide +kernel
theorem dX3_isDone_94 : decode cX3_isDone 94 = .ok (.return_, 1) := by decide +kernel
theorem dX3_lifts_0 : decode cX3_lifts 0 = .ok (.aload_n 0, 1) := by decide +kernel
theorem dX3_lifts_1 : decode cX3_lifts 1 = .ok (.dup, 1) := by decide +kernel
theorem dX3_lifts_2 : decode cX3_lifts 2 = .ok (.getfield 108, 3) := by decide +kernel
theorem dX3_lifts_5 : decode cX3_lifts 5 = .ok (.iconst 1, 1) := by decide +kernel
theorem dX3_lifts_6 : decode cX3_lifts 6 = .ok (.iadd, 1) := by decide +kernel
theorem dX3_lifts_7 : decode cX3_lifts 7 = .ok (.putfield 108, 3) := by decide +kernel
theorem dX3_lifts_10 : decode cX3_lifts 10 = .ok (.aload_n 0, 1) := by decide +kernel
theorem dX3_lifts_11 : decode cX3_lifts 11 = .ok (.getfield 108, 3) := by decide +kernel
theorem dX3_lifts_14 : decode cX3_lifts 14 = .ok (.iconst 2, 1) := by decide +kernel
theorem dX3_lifts_15 : decode cX3_lifts 15 = .ok (.if_icmp .ne 29, 3) := by decide +kernel
theorem dX3_lifts_18 : decode cX3_lifts 18 = .ok (.aload_n 0, 1) := by decide +kernel
theorem dX3_lifts_19 : decode cX3_lifts 19 = .ok (.iconst 0, 1) := by decide +kernel
theorem dX3_lifts_20 : decode cX3_lifts 20 = .ok (.putfield 108, 3) := by decide +kernel
theorem dX3_lifts_23 : decode cX3_lifts 23 = .ok (.aload_n 0, 1) := by decide +kernel
theorem dX3_lifts_24 : decode cX3_lifts 24 = .ok (.iload_n 1, 1) := by decide +kernel
theorem dX3_lifts_25 : decode cX3_lifts 25 = .ok (.ifCond .ne 7, 3) := by decide +kernel
theorem dX3_lifts_28 : decode cX3_lifts 28 = .ok (.iconst 1, 1) := by decide +kernel
theorem dX3_lifts_29 : decode cX3_lifts 29 = .ok (.goto 4, 3) := by decide +kernel
theorem dX3_lifts_32 : decode cX3_lifts 32 = .ok (.iconst 0, 1) := by decide +kernel
theorem dX3_lifts_33 : decode cX3_lifts 33 = .ok (.putfield 117, 3) := by decide +kernel
theorem dX3_lifts_36 : decode cX3_lifts 36 = .ok (.iload_n 1, 1) := by decide +kernel
theorem dX3_lifts_37 : decode cX3_lifts 37 = .ok (.ifCond .ne 7, 3) := by decide +kernel
theorem dX3_lifts_40 : decode cX3_lifts 40 = .ok (.aload_n 0, 1) := by decide +kernel
theorem dX3_lifts_41 : decode cX3_lifts 41 = .ok (.invokevirtual 121, 3) := by decide +kernel
theorem dX3_lifts_44 : decode cX3_lifts 44 = .ok (.return_, 1) := by decide +kernel
theorem dX3_changes_0 : decode cX3_changes 0 = .ok (.aload_n 0, 1) := by decide +kernel
theorem dX3_changes_1 : decode cX3_changes 1 = .ok (.dup, 1) := by decide +kernel
theorem dX3_changes_2 : decode cX3_changes 2 = .ok (.getfield 108, 3) := by decide +kernel
theorem dX3_changes_5 : decode cX3_changes 5 = .ok (.iconst 1, 1) := by decide +kernel
theorem dX3_changes_6 : decode cX3_changes 6 = .ok (.iadd, 1) := by decide +kernel
theorem dX3_changes_7 : decode cX3_changes 7 = .ok (.putfield 108, 3) := by decide +kernel
theorem dX3_changes_10 : decode cX3_changes 10 = .ok (.aload_n 0, 1) := by decide +kernel
theorem dX3_changes_11 : decode cX3_changes 11 = .ok (.getfield 108, 3) := by decide +kernel
theorem dX3_changes_14 : decode cX3_changes 14 = .ok (.iconst 3, 1) := by decide +kernel
theorem dX3_changes_15 : decode cX3_changes 15 = .ok (.if_icmp .ne 17, 3) := by decide +kernel
theorem dX3_changes_18 : decode cX3_changes 18 = .ok (.aload_n 0, 1) := by decide +kernel
theorem dX3_changes_19 : decode cX3_changes 19 = .ok (.aload_n 0, 1) := by decide +kernel
theorem dX3_changes_20 : decode cX3_changes 20 = .ok (.getfield 13, 3) := by decide +kernel
theorem dX3_changes_23 : decode cX3_changes 23 = .ok (.iconst 0, 1) := by decide +kernel
theorem dX3_changes_24 : decode cX3_changes 24 = .ok (.iaload, 1) := by decide +kernel
theorem dX3_changes_25 : decode cX3_changes 25 = .ok (.putfield 124, 3) := by decide +kernel
theorem dX3_changes_28 : decode cX3_changes 28 = .ok (.aload_n 0, 1) := by decide +kernel
theorem dX3_changes_29 : decode cX3_changes 29 = .ok (.invokevirtual 127, 3) := by decide +kernel
theorem dX3_changes_32 : decode cX3_changes 32 = .ok (.return_, 1) := by decide +kernel
theorem dX3_goesTo_0 : decode cX3_goesTo 0 = .ok (.aload_n 0, 1) := by decide +kernel
theorem dX3_goesTo_1 : decode cX3_goesTo 1 = .ok (.getfield 13, 3) := by decide +kernel
theorem dX3_goesTo_4 : decode cX3_goesTo 4 = .ok (.iconst 0, 1) := by decide +kernel
theorem dX3_goesTo_5 : decode cX3_goesTo 5 = .ok (.iaload, 1) := by decide +kernel
theorem dX3_goesTo_6 : decode cX3_goesTo 6 = .ok (.aload_n 0, 1) := by decide +kernel
theorem dX3_goesTo_7 : decode cX3_goesTo 7 = .ok (.getfield 16, 3) := by decide +kernel
theorem dX3_goesTo_10 : decode cX3_goesTo 10 = .ok (.iconst 0, 1) := by decide +kernel
theorem dX3_goesTo_11 : decode cX3_goesTo 11 = .ok (.iaload, 1) := by decide +kernel
theorem dX3_goesTo_12 : decode cX3_goesTo 12 = .ok (.invokestatic 40, 3) := by decide +kernel
theorem dX3_goesTo_15 : decode cX3_goesTo 15 = .ok (.istore_n 2, 1) := by decide +kernel
theorem dX3_goesTo_16 : decode cX3_goesTo 16 = .ok (.aload_n 0, 1) := by decide +kernel
theorem dX3_goesTo_17 : decode cX3_goesTo 17 = .ok (.aload_n 0, 1) := by decide +kernel
theorem dX3_goesTo_18 : decode cX3_goesTo 18 = .ok (.getfield 111, 3) := by decide +kernel
theorem dX3_goesTo_21 : decode cX3_goesTo 21 = .ok (.aload_n 0, 1) := by decide +kernel
theorem dX3_goesTo_22 : decode cX3_goesTo 22 = .ok (.getfield 13, 3) := by decide +kernel
theorem dX3_goesTo_25 : decode cX3_goesTo 25 = .ok (.iconst 0, 1) := by decide +kernel
theorem dX3_goesTo_26 : decode cX3_goesTo 26 = .ok (.iaload, 1) := by decide +kernel
theorem dX3_goesTo_27 : decode cX3_goesTo 27 = .ok (.iload_n 1, 1) := by decide +kernel
theorem dX3_goesTo_28 : decode cX3_goesTo 28 = .ok (.imul, 1) := by decide +kernel
theorem dX3_goesTo_29 : decode cX3_goesTo 29 = .ok (.iload_n 2, 1) := by decide +kernel
theorem dX3_goesTo_30 : decode cX3_goesTo 30 = .ok (.idiv, 1) := by decide +kernel
theorem dX3_goesTo_31 : decode cX3_goesTo 31 = .ok (.iadd, 1) := by decide +kernel
theorem dX3_goesTo_32 : decode cX3_goesTo 32 = .ok (.putfield 102, 3) := by decide +kernel
theorem dX3_goesTo_35 : decode cX3_goesTo 35 = .ok (.aload_n 0, 1) := by decide +kernel
theorem dX3_goesTo_36 : decode cX3_goesTo 36 = .ok (.aload_n 0, 1) := by decide +kernel
theorem dX3_goesTo_37 : decode cX3_goesTo 37 = .ok (.getfield 114, 3) := by decide +kernel
theorem dX3_goesTo_40 : decode cX3_goesTo 40 = .ok (.aload_n 0, 1) := by decide +kernel
theorem dX3_goesTo_41 : decode cX3_goesTo 41 = .ok (.getfield 16, 3) := by decide +kernel
theorem dX3_goesTo_44 : decode cX3_goesTo 44 = .ok (.iconst 0, 1) := by decide +kernel
theorem dX3_goesTo_45 : decode cX3_goesTo 45 = .ok (.iaload, 1) := by decide +kernel
theorem dX3_goesTo_46 : decode cX3_goesTo 46 = .ok (.iload_n 1, 1) := by decide +kernel
theorem dX3_goesTo_47 : decode cX3_goesTo 47 = .ok (.imul, 1) := by decide +kernel
theorem dX3_goesTo_48 : decode cX3_goesTo 48 = .ok (.iload_n 2, 1) := by decide +kernel
theorem dX3_goesTo_49 : decode cX3_goesTo 49 = .ok (.idiv, 1) := by decide +kernel
theorem dX3_goesTo_50 : decode cX3_goesTo 50 = .ok (.iadd, 1) := by decide +kernel
theorem dX3_goesTo_51 : decode cX3_goesTo 51 = .ok (.putfield 99, 3) := by decide +kernel
theorem dX3_goesTo_54 : decode cX3_goesTo 54 = .ok (.return_, 1) := by decide +kernel
theorem dX3_step_0 : decode cX3_step 0 = .ok (.aload_n 0, 1) := by decide +kernel
theorem dX3_step_1 : decode cX3_step 1 = .ok (.dup, 1) := by decide +kernel
theorem dX3_step_2 : decode cX3_step 2 = .ok (.getfield 105, 3) := by decide +kernel
theorem dX3_step_5 : decode cX3_step 5 = .ok (.iconst 1, 1) := by decide +kernel
theorem dX3_step_6 : decode cX3_step 6 = .ok (.iadd, 1) := by decide +kernel
theorem dX3_step_7 : decode cX3_step 7 = .ok (.putfield 105, 3) := by decide +kernel
theorem dX3_step_10 : decode cX3_step 10 = .ok (.aload_n 0, 1) := by decide +kernel
theorem dX3_step_11 : decode cX3_step 11 = .ok (.aload_n 0, 1) := by decide +kernel
theorem dX3_step_12 : decode cX3_step 12 = .ok (.getfield 105, 3) := by decide +kernel
theorem dX3_step_15 : decode cX3_step 15 = .ok (.invokevirtual 130, 3) := by decide +kernel
theorem dX3_step_18 : decode cX3_step 18 = .ok (.aload_n 0, 1) := by decide +kernel
theorem dX3_step_19 : decode cX3_step 19 = .ok (.getfield 7, 3) := by decide +kernel
theorem dX3_step_22 : decode cX3_step 22 = .ok (.iconst 0, 1) := by decide +kernel
theorem dX3_step_23 : decode cX3_step 23 = .ok (.iaload, 1) := by decide +kernel
theorem dX3_step_24 : decode cX3_step 24 = .ok (.iconst 2, 1) := by decide +kernel
theorem dX3_step_25 : decode cX3_step 25 = .ok (.if_icmp .ne 33, 3) := by decide +kernel
theorem dX3_step_28 : decode cX3_step 28 = .ok (.aload_n 0, 1) := by decide +kernel
theorem dX3_step_29 : decode cX3_step 29 = .ok (.getfield 19, 3) := by decide +kernel
theorem dX3_step_32 : decode cX3_step 32 = .ok (.aload_n 0, 1) := by decide +kernel
theorem dX3_step_33 : decode cX3_step 33 = .ok (.getfield 124, 3) := by decide +kernel
theorem dX3_step_36 : decode cX3_step 36 = .ok (.dup2, 1) := by decide +kernel
theorem dX3_step_37 : decode cX3_step 37 = .ok (.iaload, 1) := by decide +kernel
theorem dX3_step_38 : decode cX3_step 38 = .ok (.iconst 1, 1) := by decide +kernel
theorem dX3_step_39 : decode cX3_step 39 = .ok (.isub, 1) := by decide +kernel
theorem dX3_step_40 : decode cX3_step 40 = .ok (.iastore, 1) := by decide +kernel
theorem dX3_step_41 : decode cX3_step 41 = .ok (.aload_n 0, 1) := by decide +kernel
theorem dX3_step_42 : decode cX3_step 42 = .ok (.dup, 1) := by decide +kernel
theorem dX3_step_43 : decode cX3_step 43 = .ok (.getfield 133, 3) := by decide +kernel
theorem dX3_step_46 : decode cX3_step 46 = .ok (.iconst 1, 1) := by decide +kernel
theorem dX3_step_47 : decode cX3_step 47 = .ok (.iadd, 1) := by decide +kernel
theorem dX3_step_48 : decode cX3_step 48 = .ok (.putfield 133, 3) := by decide +kernel
theorem dX3_step_51 : decode cX3_step 51 = .ok (.aload_n 0, 1) := by decide +kernel
theorem dX3_step_52 : decode cX3_step 52 = .ok (.invokevirtual 121, 3) := by decide +kernel
theorem dX3_step_55 : decode cX3_step 55 = .ok (.goto 13, 3) := by decide +kernel
theorem dX3_step_58 : decode cX3_step 58 = .ok (.aload_n 0, 1) := by decide +kernel
theorem dX3_step_59 : decode cX3_step 59 = .ok (.dup, 1) := by decide +kernel
theorem dX3_step_60 : decode cX3_step 60 = .ok (.getfield 136, 3) := by decide +kernel
theorem dX3_step_63 : decode cX3_step 63 = .ok (.iconst 1, 1) := by decide +kernel
theorem dX3_step_64 : decode cX3_step 64 = .ok (.iadd, 1) := by decide +kernel
theorem dX3_step_65 : decode cX3_step 65 = .ok (.putfield 136, 3) := by decide +kernel
theorem dX3_step_68 : decode cX3_step 68 = .ok (.aload_n 0, 1) := by decide +kernel
theorem dX3_step_69 : decode cX3_step 69 = .ok (.getfield 105, 3) := by decide +kernel
theorem dX3_step_72 : decode cX3_step 72 = .ok (.aload_n 0, 1) := by decide +kernel
theorem dX3_step_73 : decode cX3_step 73 = .ok (.getfield 13, 3) := by decide +kernel
theorem dX3_step_76 : decode cX3_step 76 = .ok (.iconst 0, 1) := by decide +kernel
theorem dX3_step_77 : decode cX3_step 77 = .ok (.iaload, 1) := by decide +kernel
theorem dX3_step_78 : decode cX3_step 78 = .ok (.aload_n 0, 1) := by decide +kernel
theorem dX3_step_79 : decode cX3_step 79 = .ok (.getfield 16, 3) := by decide +kernel
theorem dX3_step_82 : decode cX3_step 82 = .ok (.iconst 0, 1) := by decide +kernel
theorem dX3_step_83 : decode cX3_step 83 = .ok (.iaload, 1) := by decide +kernel
theorem dX3_step_84 : decode cX3_step 84 = .ok (.invokestatic 40, 3) := by decide +kernel
theorem dX3_step_87 : decode cX3_step 87 = .ok (.if_icmp .ne 7, 3) := by decide +kernel
theorem dX3_step_90 : decode cX3_step 90 = .ok (.aload_n 0, 1) := by decide +kernel
theorem dX3_step_91 : decode cX3_step 91 = .ok (.invokevirtual 127, 3) := by decide +kernel
theorem dX3_step_94 : decode cX3_step 94 = .ok (.iconst 1, 1) := by decide +kernel
theorem dX3_step_95 : decode cX3_step 95 = .ok (.ireturn, 1) := by decide +kernel
theorem dX3_lacksInk_0 : decode cX3_lacksInk 0 = .ok (.aload_n 0, 1) := by decide +kernel
theorem dX3_lacksInk_1 : decode cX3_lacksInk 1 = .ok (.getfield 57, 3) := by decide +kernel
theorem dX3_lacksInk_4 : decode cX3_lacksInk 4 = .ok (.ifCond .le 36, 3) := by decide +kernel
theorem dX3_lacksInk_7 : decode cX3_lacksInk 7 = .ok (.aload_n 0, 1) := by decide +kernel
theorem dX3_lacksInk_8 : decode cX3_lacksInk 8 = .ok (.getfield 7, 3) := by decide +kernel
theorem dX3_lacksInk_11 : decode cX3_lacksInk 11 = .ok (.iconst 0, 1) := by decide +kernel
theorem dX3_lacksInk_12 : decode cX3_lacksInk 12 = .ok (.iaload, 1) := by decide +kernel
theorem dX3_lacksInk_13 : decode cX3_lacksInk 13 = .ok (.iconst 2, 1) := by decide +kernel
theorem dX3_lacksInk_14 : decode cX3_lacksInk 14 = .ok (.if_icmp .ne 26, 3) := by decide +kernel
theorem dX3_lacksInk_17 : decode cX3_lacksInk 17 = .ok (.aload_n 0, 1) := by decide +kernel
theorem dX3_lacksInk_18 : decode cX3_lacksInk 18 = .ok (.getfield 117, 3) := by decide +kernel
theorem dX3_lacksInk_21 : decode cX3_lacksInk 21 = .ok (.ifCond .eq 19, 3) := by decide +kernel
theorem dX3_lacksInk_24 : decode cX3_lacksInk 24 = .ok (.aload_n 0, 1) := by decide +kernel
theorem dX3_lacksInk_25 : decode cX3_lacksInk 25 = .ok (.getfield 19, 3) := by decide +kernel
theorem dX3_lacksInk_28 : decode cX3_lacksInk 28 = .ok (.aload_n 0, 1) := by decide +kernel
theorem dX3_lacksInk_29 : decode cX3_lacksInk 29 = .ok (.getfield 124, 3) := by decide +kernel
theorem dX3_lacksInk_32 : decode cX3_lacksInk 32 = .ok (.iaload, 1) := by decide +kernel
theorem dX3_lacksInk_33 : decode cX3_lacksInk 33 = .ok (.ifCond .ne 7, 3) := by decide +kernel
theorem dX3_lacksInk_36 : decode cX3_lacksInk 36 = .ok (.iconst 1, 1) := by decide +kernel
theorem dX3_lacksInk_37 : decode cX3_lacksInk 37 = .ok (.goto 4, 3) := by decide +kernel
theorem dX3_lacksInk_40 : decode cX3_lacksInk 40 = .ok (.iconst 0, 1) := by decide +kernel
theorem dX3_lacksInk_41 : decode cX3_lacksInk 41 = .ok (.ireturn, 1) := by decide +kernel
theorem dX3_ticks_0 : decode cX3_ticks 0 = .ok (.aload_n 0, 1) := by decide +kernel
theorem dX3_ticks_1 : decode cX3_ticks 1 = .ok (.getfield 57, 3) := by decide +kernel
theorem dX3_ticks_4 : decode cX3_ticks 4 = .ok (.ifCond .eq 10, 3) := by decide +kernel
theorem dX3_ticks_7 : decode cX3_ticks 7 = .ok (.aload_n 0, 1) := by decide +kernel
theorem dX3_ticks_8 : decode cX3_ticks 8 = .ok (.invokevirtual 139, 3) := by decide +kernel
theorem dX3_ticks_11 : decode cX3_ticks 11 = .ok (.ifCond .eq 5, 3) := by decide +kernel
theorem dX3_ticks_14 : decode cX3_ticks 14 = .ok (.iconst 0, 1) := by decide +kernel
theorem dX3_ticks_15 : decode cX3_ticks 15 = .ok (.ireturn, 1) := by decide +kernel
theorem dX3_ticks_16 : decode cX3_ticks 16 = .ok (.aload_n 0, 1) := by decide +kernel
theorem dX3_ticks_17 : decode cX3_ticks 17 = .ok (.getfield 7, 3) := by decide +kernel
theorem dX3_ticks_20 : decode cX3_ticks 20 = .ok (.iconst 0, 1) := by decide +kernel
theorem dX3_ticks_21 : decode cX3_ticks 21 = .ok (.iaload, 1) := by decide +kernel
theorem dX3_ticks_22 : decode cX3_ticks 22 = .ok (.iconst 2, 1) := by decide +kernel
theorem dX3_ticks_23 : decode cX3_ticks 23 = .ok (.if_icmp .ne 13, 3) := by decide +kernel
theorem dX3_ticks_26 : decode cX3_ticks 26 = .ok (.aload_n 0, 1) := by decide +kernel
theorem dX3_ticks_27 : decode cX3_ticks 27 = .ok (.getfield 117, 3) := by decide +kernel
theorem dX3_ticks_30 : decode cX3_ticks 30 = .ok (.ifCond .ne 34, 3) := by decide +kernel
theorem dX3_ticks_33 : decode cX3_ticks 33 = .ok (.goto 10, 3) := by decide +kernel
theorem dX3_ticks_36 : decode cX3_ticks 36 = .ok (.aload_n 0, 1) := by decide +kernel
theorem dX3_ticks_37 : decode cX3_ticks 37 = .ok (.getfield 117, 3) := by decide +kernel
theorem dX3_ticks_40 : decode cX3_ticks 40 = .ok (.ifCond .eq 24, 3) := by decide +kernel
theorem dX3_ticks_43 : decode cX3_ticks 43 = .ok (.aload_n 0, 1) := by decide +kernel
theorem dX3_ticks_44 : decode cX3_ticks 44 = .ok (.aload_n 0, 1) := by decide +kernel
theorem dX3_ticks_45 : decode cX3_ticks 45 = .ok (.getfield 7, 3) := by decide +kernel
theorem dX3_ticks_48 : decode cX3_ticks 48 = .ok (.iconst 0, 1) := by decide +kernel
theorem dX3_ticks_49 : decode cX3_ticks 49 = .ok (.iaload, 1) := by decide +kernel
theorem dX3_ticks_50 : decode cX3_ticks 50 = .ok (.iconst 2, 1) := by decide +kernel
theorem dX3_ticks_51 : decode cX3_ticks 51 = .ok (.if_icmp .eq 7, 3) := by decide +kernel
theorem dX3_ticks_54 : decode cX3_ticks 54 = .ok (.iconst 1, 1) := by decide +kernel
theorem dX3_ticks_55 : decode cX3_ticks 55 = .ok (.goto 4, 3) := by decide +kernel
theorem dX3_ticks_58 : decode cX3_ticks 58 = .ok (.iconst 0, 1) := by decide +kernel
theorem dX3_ticks_59 : decode cX3_ticks 59 = .ok (.invokevirtual 143, 3) := by decide +kernel
theorem dX3_ticks_62 : decode cX3_ticks 62 = .ok (.iconst 0, 1) := by decide +kernel
theorem dX3_ticks_63 : decode cX3_ticks 63 = .ok (.ireturn, 1) := by decide +kernel
theorem dX3_ticks_64 : decode cX3_ticks 64 = .ok (.aload_n 0, 1) := by decide +kernel
theorem dX3_ticks_65 : decode cX3_ticks 65 = .ok (.getfield 7, 3) := by decide +kernel
theorem dX3_ticks_68 : decode cX3_ticks 68 = .ok (.iconst 0, 1) := by decide +kernel
theorem dX3_ticks_69 : decode cX3_ticks 69 = .ok (.iaload, 1) := by decide +kernel
theorem dX3_ticks_70 : decode cX3_ticks 70 = .ok (.iconst 3, 1) := by decide +kernel
theorem dX3_ticks_71 : decode cX3_ticks 71 = .ok (.if_icmp .ne 9, 3) := by decide +kernel
theorem dX3_ticks_74 : decode cX3_ticks 74 = .ok (.aload_n 0, 1) := by decide +kernel
theorem dX3_ticks_75 : decode cX3_ticks 75 = .ok (.invokevirtual 147, 3) := by decide +kernel
theorem dX3_ticks_78 : decode cX3_ticks 78 = .ok (.iconst 0, 1) := by decide +kernel
theorem dX3_ticks_79 : decode cX3_ticks 79 = .ok (.ireturn, 1) := by decide +kernel
theorem dX3_ticks_80 : decode cX3_ticks 80 = .ok (.aload_n 0, 1) := by decide +kernel
theorem dX3_ticks_81 : decode cX3_ticks 81 = .ok (.invokevirtual 150, 3) := by decide +kernel
theorem dX3_ticks_84 : decode cX3_ticks 84 = .ok (.ireturn, 1) := by decide +kernel
theorem dX3_tick_0 : decode cX3_tick 0 = .ok (.aload_n 0, 1) := by decide +kernel
theorem dX3_tick_1 : decode cX3_tick 1 = .ok (.iload_n 1, 1) := by decide +kernel
theorem dX3_tick_2 : decode cX3_tick 2 = .ok (.iconst 1, 1) := by decide +kernel
theorem dX3_tick_3 : decode cX3_tick 3 = .ok (.sipush 1000, 3) := by decide +kernel
theorem dX3_tick_6 : decode cX3_tick 6 = .ok (.invokestatic 32, 3) := by decide +kernel
theorem dX3_tick_9 : decode cX3_tick 9 = .ok (.ifCond .eq 7, 3) := by decide +kernel
theorem dX3_tick_12 : decode cX3_tick 12 = .ok (.iconst 0, 1) := by decide +kernel
theorem dX3_tick_13 : decode cX3_tick 13 = .ok (.goto 4, 3) := by decide +kernel
theorem dX3_tick_16 : decode cX3_tick 16 = .ok (.iconst 1, 1) := by decide +kernel
theorem dX3_tick_17 : decode cX3_tick 17 = .ok (.invokevirtual 92, 3) := by decide +kernel
theorem dX3_tick_20 : decode cX3_tick 20 = .ok (.ifCond .ne 5, 3) := by decide +kernel
theorem dX3_tick_23 : decode cX3_tick 23 = .ok (.iconst 0, 1) := by decide +kernel
theorem dX3_tick_24 : decode cX3_tick 24 = .ok (.ireturn, 1) := by decide +kernel
theorem dX3_tick_25 : decode cX3_tick 25 = .ok (.iconst 0, 1) := by decide +kernel
theorem dX3_tick_26 : decode cX3_tick 26 = .ok (.istore_n 2, 1) := by decide +kernel
theorem dX3_tick_27 : decode cX3_tick 27 = .ok (.iconst 0, 1) := by decide +kernel
theorem dX3_tick_28 : decode cX3_tick 28 = .ok (.istore_n 3, 1) := by decide +kernel
theorem dX3_tick_29 : decode cX3_tick 29 = .ok (.iload_n 3, 1) := by decide +kernel
theorem dX3_tick_30 : decode cX3_tick 30 = .ok (.iload_n 1, 1) := by decide +kernel
theorem dX3_tick_31 : decode cX3_tick 31 = .ok (.if_icmp .ge 16, 3) := by decide +kernel
theorem dX3_tick_34 : decode cX3_tick 34 = .ok (.iload_n 2, 1) := by decide +kernel
theorem dX3_tick_35 : decode cX3_tick 35 = .ok (.aload_n 0, 1) := by decide +kernel
theorem dX3_tick_36 : decode cX3_tick 36 = .ok (.invokevirtual 154, 3) := by decide +kernel
theorem dX3_tick_39 : decode cX3_tick 39 = .ok (.iadd, 1) := by decide +kernel
theorem dX3_tick_40 : decode cX3_tick 40 = .ok (.istore_n 2, 1) := by decide +kernel
theorem dX3_tick_41 : decode cX3_tick 41 = .ok (.iinc 3 1, 3) := by decide +kernel
theorem dX3_tick_44 : decode cX3_tick 44 = .ok (.goto (-15), 3) := by decide +kernel
theorem dX3_tick_47 : decode cX3_tick 47 = .ok (.iload_n 2, 1) := by decide +kernel
theorem dX3_tick_48 : decode cX3_tick 48 = .ok (.ireturn, 1) := by decide +kernel
theorem dX3_cut_0 : decode cX3_cut 0 = .ok (.aload_n 0, 1) := by decide +kernel
theorem dX3_cut_1 : decode cX3_cut 1 = .ok (.iconst 0, 1) := by decide +kernel
theorem dX3_cut_2 : decode cX3_cut 2 = .ok (.putfield 28, 3) := by decide +kernel
theorem dX3_cut_5 : decode cX3_cut 5 = .ok (.aload_n 0, 1) := by decide +kernel
theorem dX3_cut_6 : decode cX3_cut 6 = .ok (.getfield 105, 3) := by decide +kernel
theorem dX3_cut_9 : decode cX3_cut 9 = .ok (.bipush 10, 2) := by decide +kernel
theorem dX3_cut_11 : decode cX3_cut 11 = .ok (.irem, 1) := by decide +kernel
theorem dX3_cut_12 : decode cX3_cut 12 = .ok (.istore_n 1, 1) := by decide +kernel
theorem dX3_cut_13 : decode cX3_cut 13 = .ok (.aload_n 0, 1) := by decide +kernel
theorem dX3_cut_14 : decode cX3_cut 14 = .ok (.dup, 1) := by decide +kernel
theorem dX3_cut_15 : decode cX3_cut 15 = .ok (.getfield 105, 3) := by decide +kernel
theorem dX3_cut_18 : decode cX3_cut 18 = .ok (.iload_n 1, 1) := by decide +kernel
theorem dX3_cut_19 : decode cX3_cut 19 = .ok (.isub, 1) := by decide +kernel
theorem dX3_cut_20 : decode cX3_cut 20 = .ok (.putfield 105, 3) := by decide +kernel
theorem dX3_cut_23 : decode cX3_cut 23 = .ok (.aload_n 0, 1) := by decide +kernel
theorem dX3_cut_24 : decode cX3_cut 24 = .ok (.getfield 57, 3) := by decide +kernel
theorem dX3_cut_27 : decode cX3_cut 27 = .ok (.ifCond .le 21, 3) := by decide +kernel
theorem dX3_cut_30 : decode cX3_cut 30 = .ok (.aload_n 0, 1) := by decide +kernel
theorem dX3_cut_31 : decode cX3_cut 31 = .ok (.getfield 7, 3) := by decide +kernel
theorem dX3_cut_34 : decode cX3_cut 34 = .ok (.iconst 0, 1) := by decide +kernel
theorem dX3_cut_35 : decode cX3_cut 35 = .ok (.iaload, 1) := by decide +kernel
theorem dX3_cut_36 : decode cX3_cut 36 = .ok (.iconst 3, 1) := by decide +kernel
theorem dX3_cut_37 : decode cX3_cut 37 = .ok (.if_icmp .eq 11, 3) := by decide +kernel
theorem dX3_cut_40 : decode cX3_cut 40 = .ok (.aload_n 0, 1) := by decide +kernel
theorem dX3_cut_41 : decode cX3_cut 41 = .ok (.aload_n 0, 1) := by decide +kernel
theorem dX3_cut_42 : decode cX3_cut 42 = .ok (.getfield 105, 3) := by decide +kernel
theorem dX3_cut_45 : decode cX3_cut 45 = .ok (.invokevirtual 130, 3) := by decide +kernel
theorem dX3_cut_48 : decode cX3_cut 48 = .ok (.aload_n 0, 1) := by decide +kernel
theorem dX3_cut_49 : decode cX3_cut 49 = .ok (.iconst 0, 1) := by decide +kernel
theorem dX3_cut_50 : decode cX3_cut 50 = .ok (.putfield 108, 3) := by decide +kernel
theorem dX3_cut_53 : decode cX3_cut 53 = .ok (.aload_n 0, 1) := by decide +kernel
theorem dX3_cut_54 : decode cX3_cut 54 = .ok (.iconst 0, 1) := by decide +kernel
theorem dX3_cut_55 : decode cX3_cut 55 = .ok (.putfield 117, 3) := by decide +kernel
theorem dX3_cut_58 : decode cX3_cut 58 = .ok (.aload_n 0, 1) := by decide +kernel
theorem dX3_cut_59 : decode cX3_cut 59 = .ok (.iconst 0, 1) := by decide +kernel
theorem dX3_cut_60 : decode cX3_cut 60 = .ok (.putfield 89, 3) := by decide +kernel
theorem dX3_cut_63 : decode cX3_cut 63 = .ok (.iload_n 1, 1) := by decide +kernel
theorem dX3_cut_64 : decode cX3_cut 64 = .ok (.ireturn, 1) := by decide +kernel
theorem dX3_isPen_0 : decode cX3_isPen 0 = .ok (.iload_n 0, 1) := by decide +kernel
theorem dX3_isPen_1 : decode cX3_isPen 1 = .ok (.iconst 0, 1) := by decide +kernel
theorem dX3_isPen_2 : decode cX3_isPen 2 = .ok (.iconst 2, 1) := by decide +kernel
theorem dX3_isPen_3 : decode cX3_isPen 3 = .ok (.invokestatic 32, 3) := by decide +kernel
theorem dX3_isPen_6 : decode cX3_isPen 6 = .ok (.ireturn, 1) := by decide +kernel
theorem dX3_refill_0 : decode cX3_refill 0 = .ok (.aload_n 0, 1) := by decide +kernel
theorem dX3_refill_1 : decode cX3_refill 1 = .ok (.iload_n 1, 1) := by decide +kernel
theorem dX3_refill_2 : decode cX3_refill 2 = .ok (.invokestatic 157, 3) := by decide +kernel
theorem dX3_refill_5 : decode cX3_refill 5 = .ok (.ifCond .eq 7, 3) := by decide +kernel
theorem dX3_refill_8 : decode cX3_refill 8 = .ok (.iconst 0, 1) := by decide +kernel
theorem dX3_refill_9 : decode cX3_refill 9 = .ok (.goto 4, 3) := by decide +kernel
theorem dX3_refill_12 : decode cX3_refill 12 = .ok (.iconst 1, 1) := by decide +kernel
theorem dX3_refill_13 : decode cX3_refill 13 = .ok (.invokevirtual 92, 3) := by decide +kernel
theorem dX3_refill_16 : decode cX3_refill 16 = .ok (.ifCond .ne 5, 3) := by decide +kernel
theorem dX3_refill_19 : decode cX3_refill 19 = .ok (.iconst 0, 1) := by decide +kernel
theorem dX3_refill_20 : decode cX3_refill 20 = .ok (.ireturn, 1) := by decide +kernel
theorem dX3_refill_21 : decode cX3_refill 21 = .ok (.aload_n 0, 1) := by decide +kernel
theorem dX3_refill_22 : decode cX3_refill 22 = .ok (.getfield 19, 3) := by decide +kernel
theorem dX3_refill_25 : decode cX3_refill 25 = .ok (.iload_n 1, 1) := by decide +kernel
theorem dX3_refill_26 : decode cX3_refill 26 = .ok (.iaload, 1) := by decide +kernel
theorem dX3_refill_27 : decode cX3_refill 27 = .ok (.istore_n 2, 1) := by decide +kernel
theorem dX3_refill_28 : decode cX3_refill 28 = .ok (.aload_n 0, 1) := by decide +kernel
theorem dX3_refill_29 : decode cX3_refill 29 = .ok (.getfield 19, 3) := by decide +kernel
theorem dX3_refill_32 : decode cX3_refill 32 = .ok (.iload_n 1, 1) := by decide +kernel
theorem dX3_refill_33 : decode cX3_refill 33 = .ok (.sipush 500, 3) := by decide +kernel
theorem dX3_refill_36 : decode cX3_refill 36 = .ok (.iastore, 1) := by decide +kernel
theorem dX3_refill_37 : decode cX3_refill 37 = .ok (.iload_n 2, 1) := by decide +kernel
theorem dX3_refill_38 : decode cX3_refill 38 = .ok (.ireturn, 1) := by decide +kernel
theorem dX3_pour_0 : decode cX3_pour 0 = .ok (.aload_n 0, 1) := by decide +kernel
theorem dX3_pour_1 : decode cX3_pour 1 = .ok (.iload_n 1, 1) := by decide +kernel
theorem dX3_pour_2 : decode cX3_pour 2 = .ok (.invokestatic 157, 3) := by decide +kernel
theorem dX3_pour_5 : decode cX3_pour 5 = .ok (.ifCond .ne 7, 3) := by decide +kernel
theorem dX3_pour_8 : decode cX3_pour 8 = .ok (.iconst 1, 1) := by decide +kernel
theorem dX3_pour_9 : decode cX3_pour 9 = .ok (.goto 19, 3) := by decide +kernel
theorem dX3_pour_12 : decode cX3_pour 12 = .ok (.iload_n 2, 1) := by decide +kernel
theorem dX3_pour_13 : decode cX3_pour 13 = .ok (.iconst 1, 1) := by decide +kernel
theorem dX3_pour_14 : decode cX3_pour 14 = .ok (.sipush 500, 3) := by decide +kernel
theorem dX3_pour_17 : decode cX3_pour 17 = .ok (.invokestatic 32, 3) := by decide +kernel
theorem dX3_pour_20 : decode cX3_pour 20 = .ok (.ifCond .eq 7, 3) := by decide +kernel
theorem dX3_pour_23 : decode cX3_pour 23 = .ok (.iconst 0, 1) := by decide +kernel
theorem dX3_pour_24 : decode cX3_pour 24 = .ok (.goto 4, 3) := by decide +kernel
theorem dX3_pour_27 : decode cX3_pour 27 = .ok (.iconst 2, 1) := by decide +kernel
theorem dX3_pour_28 : decode cX3_pour 28 = .ok (.invokevirtual 92, 3) := by decide +kernel
theorem dX3_pour_31 : decode cX3_pour 31 = .ok (.ifCond .ne 5, 3) := by decide +kernel
theorem dX3_pour_34 : decode cX3_pour 34 = .ok (.iconst 0, 1) := by decide +kernel
theorem dX3_pour_35 : decode cX3_pour 35 = .ok (.ireturn, 1) := by decide +kernel
theorem dX3_pour_36 : decode cX3_pour 36 = .ok (.aload_n 0, 1) := by decide +kernel
theorem dX3_pour_37 : decode cX3_pour 37 = .ok (.getfield 19, 3) := by decide +kernel
theorem dX3_pour_40 : decode cX3_pour 40 = .ok (.iload_n 1, 1) := by decide +kernel
theorem dX3_pour_41 : decode cX3_pour 41 = .ok (.aload_n 0, 1) := by decide +kernel
theorem dX3_pour_42 : decode cX3_pour 42 = .ok (.getfield 19, 3) := by decide +kernel
theorem dX3_pour_45 : decode cX3_pour 45 = .ok (.iload_n 1, 1) := by decide +kernel
theorem dX3_pour_46 : decode cX3_pour 46 = .ok (.iaload, 1) := by decide +kernel
theorem dX3_pour_47 : decode cX3_pour 47 = .ok (.iload_n 2, 1) := by decide +kernel
theorem dX3_pour_48 : decode cX3_pour 48 = .ok (.if_icmp .ge 7, 3) := by decide +kernel
theorem dX3_pour_51 : decode cX3_pour 51 = .ok (.iconst 0, 1) := by decide +kernel
theorem dX3_pour_52 : decode cX3_pour 52 = .ok (.goto 11, 3) := by decide +kernel
theorem dX3_pour_55 : decode cX3_pour 55 = .ok (.aload_n 0, 1) := by decide +kernel
theorem dX3_pour_56 : decode cX3_pour 56 = .ok (.getfield 19, 3) := by decide +kernel
theorem dX3_pour_59 : decode cX3_pour 59 = .ok (.iload_n 1, 1) := by decide +kernel
theorem dX3_pour_60 : decode cX3_pour 60 = .ok (.iaload, 1) := by decide +kernel
theorem dX3_pour_61 : decode cX3_pour 61 = .ok (.iload_n 2, 1) := by decide +kernel
theorem dX3_pour_62 : decode cX3_pour 62 = .ok (.isub, 1) := by decide +kernel
theorem dX3_pour_63 : decode cX3_pour 63 = .ok (.iastore, 1) := by decide +kernel
theorem dX3_pour_64 : decode cX3_pour 64 = .ok (.aload_n 0, 1) := by decide +kernel
theorem dX3_pour_65 : decode cX3_pour 65 = .ok (.getfield 19, 3) := by decide +kernel
theorem dX3_pour_68 : decode cX3_pour 68 = .ok (.iload_n 1, 1) := by decide +kernel
theorem dX3_pour_69 : decode cX3_pour 69 = .ok (.iaload, 1) := by decide +kernel
theorem dX3_pour_70 : decode cX3_pour 70 = .ok (.ireturn, 1) := by decide +kernel
theorem dX3_at_0 : decode cX3_at 0 = .ok (.aload_n 0, 1) := by decide +kernel
theorem dX3_at_1 : decode cX3_at 1 = .ok (.iconst 0, 1) := by decide +kernel
theorem dX3_at_2 : decode cX3_at 2 = .ok (.putfield 28, 3) := by decide +kernel
theorem dX3_at_5 : decode cX3_at 5 = .ok (.bipush 100, 2) := by decide +kernel
theorem dX3_at_7 : decode cX3_at 7 = .ok (.aload_n 0, 1) := by decide +kernel
theorem dX3_at_8 : decode cX3_at 8 = .ok (.getfield 99, 3) := by decide +kernel
theorem dX3_at_11 : decode cX3_at 11 = .ok (.imul, 1) := by decide +kernel
theorem dX3_at_12 : decode cX3_at 12 = .ok (.aload_n 0, 1) := by decide +kernel
theorem dX3_at_13 : decode cX3_at 13 = .ok (.getfield 102, 3) := by decide +kernel
theorem dX3_at_16 : decode cX3_at 16 = .ok (.iadd, 1) := by decide +kernel
theorem dX3_at_17 : decode cX3_at 17 = .ok (.ireturn, 1) := by decide +kernel
theorem dX3_isDown_0 : decode cX3_isDown 0 = .ok (.aload_n 0, 1) := by decide +kernel
theorem dX3_isDown_1 : decode cX3_isDown 1 = .ok (.iconst 0, 1) := by decide +kernel
theorem dX3_isDown_2 : decode cX3_isDown 2 = .ok (.putfield 28, 3) := by decide +kernel
theorem dX3_isDown_5 : decode cX3_isDown 5 = .ok (.aload_n 0, 1) := by decide +kernel
theorem dX3_isDown_6 : decode cX3_isDown 6 = .ok (.getfield 117, 3) := by decide +kernel
theorem dX3_isDown_9 : decode cX3_isDown 9 = .ok (.ireturn, 1) := by decide +kernel
theorem dX3_pen_0 : decode cX3_pen 0 = .ok (.aload_n 0, 1) := by decide +kernel
theorem dX3_pen_1 : decode cX3_pen 1 = .ok (.iconst 0, 1) := by decide +kernel
theorem dX3_pen_2 : decode cX3_pen 2 = .ok (.putfield 28, 3) := by decide +kernel
theorem dX3_pen_5 : decode cX3_pen 5 = .ok (.aload_n 0, 1) := by decide +kernel
theorem dX3_pen_6 : decode cX3_pen 6 = .ok (.getfield 124, 3) := by decide +kernel
theorem dX3_pen_9 : decode cX3_pen 9 = .ok (.ireturn, 1) := by decide +kernel
theorem dX3_ink_0 : decode cX3_ink 0 = .ok (.aload_n 0, 1) := by decide +kernel
theorem dX3_ink_1 : decode cX3_ink 1 = .ok (.iload_n 1, 1) := by decide +kernel
theorem dX3_ink_2 : decode cX3_ink 2 = .ok (.invokestatic 157, 3) := by decide +kernel
theorem dX3_ink_5 : decode cX3_ink 5 = .ok (.ifCond .eq 7, 3) := by decide +kernel
theorem dX3_ink_8 : decode cX3_ink 8 = .ok (.iconst 0, 1) := by decide +kernel
theorem dX3_ink_9 : decode cX3_ink 9 = .ok (.goto 4, 3) := by decide +kernel
theorem dX3_ink_12 : decode cX3_ink 12 = .ok (.iconst 1, 1) := by decide +kernel
theorem dX3_ink_13 : decode cX3_ink 13 = .ok (.invokevirtual 92, 3) := by decide +kernel
theorem dX3_ink_16 : decode cX3_ink 16 = .ok (.ifCond .eq 12, 3) := by decide +kernel
theorem dX3_ink_19 : decode cX3_ink 19 = .ok (.aload_n 0, 1) := by decide +kernel
theorem dX3_ink_20 : decode cX3_ink 20 = .ok (.getfield 19, 3) := by decide +kernel
theorem dX3_ink_23 : decode cX3_ink 23 = .ok (.iload_n 1, 1) := by decide +kernel
theorem dX3_ink_24 : decode cX3_ink 24 = .ok (.iaload, 1) := by decide +kernel
theorem dX3_ink_25 : decode cX3_ink 25 = .ok (.goto 4, 3) := by decide +kernel
theorem dX3_ink_28 : decode cX3_ink 28 = .ok (.iconst 0, 1) := by decide +kernel
theorem dX3_ink_29 : decode cX3_ink 29 = .ok (.ireturn, 1) := by decide +kernel
theorem dX3_isWaiting_0 : decode cX3_isWaiting 0 = .ok (.aload_n 0, 1) := by decide +kernel
theorem dX3_isWaiting_1 : decode cX3_isWaiting 1 = .ok (.iconst 0, 1) := by decide +kernel
theorem dX3_isWaiting_2 : decode cX3_isWaiting 2 = .ok (.putfield 28, 3) := by decide +kernel
theorem dX3_isWaiting_5 : decode cX3_isWaiting 5 = .ok (.aload_n 0, 1) := by decide +kernel
theorem dX3_isWaiting_6 : decode cX3_isWaiting 6 = .ok (.invokevirtual 139, 3) := by decide +kernel
theorem dX3_isWaiting_9 : decode cX3_isWaiting 9 = .ok (.ireturn, 1) := by decide +kernel
theorem dX3_timeLeft_0 : decode cX3_timeLeft 0 = .ok (.aload_n 0, 1) := by decide +kernel
theorem dX3_timeLeft_1 : decode cX3_timeLeft 1 = .ok (.iconst 0, 1) := by decide +kernel
theorem dX3_timeLeft_2 : decode cX3_timeLeft 2 = .ok (.putfield 28, 3) := by decide +kernel
theorem dX3_timeLeft_5 : decode cX3_timeLeft 5 = .ok (.iconst 0, 1) := by decide +kernel
theorem dX3_timeLeft_6 : decode cX3_timeLeft 6 = .ok (.istore_n 1, 1) := by decide +kernel
theorem dX3_timeLeft_7 : decode cX3_timeLeft 7 = .ok (.aload_n 0, 1) := by decide +kernel
theorem dX3_timeLeft_8 : decode cX3_timeLeft 8 = .ok (.getfield 117, 3) := by decide +kernel
theorem dX3_timeLeft_11 : decode cX3_timeLeft 11 = .ok (.istore_n 2, 1) := by decide +kernel
theorem dX3_timeLeft_12 : decode cX3_timeLeft 12 = .ok (.iconst 0, 1) := by decide +kernel
theorem dX3_timeLeft_13 : decode cX3_timeLeft 13 = .ok (.istore_n 3, 1) := by decide +kernel
theorem dX3_timeLeft_14 : decode cX3_timeLeft 14 = .ok (.iload_n 3, 1) := by decide +kernel
theorem dX3_timeLeft_15 : decode cX3_timeLeft 15 = .ok (.aload_n 0, 1) := by decide +kernel
theorem dX3_timeLeft_16 : decode cX3_timeLeft 16 = .ok (.getfield 57, 3) := by decide +kernel
theorem dX3_timeLeft_19 : decode cX3_timeLeft 19 = .ok (.if_icmp .ge 75, 3) := by decide +kernel
theorem dX3_timeLeft_22 : decode cX3_timeLeft 22 = .ok (.aload_n 0, 1) := by decide +kernel
theorem dX3_timeLeft_23 : decode cX3_timeLeft 23 = .ok (.getfield 7, 3) := by decide +kernel
theorem dX3_timeLeft_26 : decode cX3_timeLeft 26 = .ok (.iload_n 3, 1) := by decide +kernel
theorem dX3_timeLeft_27 : decode cX3_timeLeft 27 = .ok (.iaload, 1) := by decide +kernel
theorem dX3_timeLeft_28 : decode cX3_timeLeft 28 = .ok (.iconst 2, 1) := by decide +kernel
theorem dX3_timeLeft_29 : decode cX3_timeLeft 29 = .ok (.if_icmp .ne 7, 3) := by decide +kernel
theorem dX3_timeLeft_32 : decode cX3_timeLeft 32 = .ok (.iconst 1, 1) := by decide +kernel
theorem dX3_timeLeft_33 : decode cX3_timeLeft 33 = .ok (.goto 4, 3) := by decide +kernel
theorem dX3_timeLeft_36 : decode cX3_timeLeft 36 = .ok (.iconst 0, 1) := by decide +kernel
theorem dX3_timeLeft_37 : decode cX3_timeLeft 37 = .ok (.istore 4, 2) := by decide +kernel
theorem dX3_timeLeft_39 : decode cX3_timeLeft 39 = .ok (.iload_n 1, 1) := by decide +kernel
theorem dX3_timeLeft_40 : decode cX3_timeLeft 40 = .ok (.iload_n 2, 1) := by decide +kernel
theorem dX3_timeLeft_41 : decode cX3_timeLeft 41 = .ok (.iload 4, 2) := by decide +kernel
theorem dX3_timeLeft_43 : decode cX3_timeLeft 43 = .ok (.if_icmp .ne 7, 3) := by decide +kernel
theorem dX3_timeLeft_46 : decode cX3_timeLeft 46 = .ok (.iconst 0, 1) := by decide +kernel
theorem dX3_timeLeft_47 : decode cX3_timeLeft 47 = .ok (.goto 4, 3) := by decide +kernel
theorem dX3_timeLeft_50 : decode cX3_timeLeft 50 = .ok (.iconst 2, 1) := by decide +kernel
theorem dX3_timeLeft_51 : decode cX3_timeLeft 51 = .ok (.iadd, 1) := by decide +kernel
theorem dX3_timeLeft_52 : decode cX3_timeLeft 52 = .ok (.istore_n 1, 1) := by decide +kernel
theorem dX3_timeLeft_53 : decode cX3_timeLeft 53 = .ok (.iload_n 1, 1) := by decide +kernel
theorem dX3_timeLeft_54 : decode cX3_timeLeft 54 = .ok (.aload_n 0, 1) := by decide +kernel
theorem dX3_timeLeft_55 : decode cX3_timeLeft 55 = .ok (.getfield 7, 3) := by decide +kernel
theorem dX3_timeLeft_58 : decode cX3_timeLeft 58 = .ok (.iload_n 3, 1) := by decide +kernel
theorem dX3_timeLeft_59 : decode cX3_timeLeft 59 = .ok (.iaload, 1) := by decide +kernel
theorem dX3_timeLeft_60 : decode cX3_timeLeft 60 = .ok (.iconst 3, 1) := by decide +kernel
theorem dX3_timeLeft_61 : decode cX3_timeLeft 61 = .ok (.if_icmp .ne 7, 3) := by decide +kernel
theorem dX3_timeLeft_64 : decode cX3_timeLeft 64 = .ok (.iconst 3, 1) := by decide +kernel
theorem dX3_timeLeft_65 : decode cX3_timeLeft 65 = .ok (.goto 18, 3) := by decide +kernel
theorem dX3_timeLeft_68 : decode cX3_timeLeft 68 = .ok (.aload_n 0, 1) := by decide +kernel
theorem dX3_timeLeft_69 : decode cX3_timeLeft 69 = .ok (.getfield 13, 3) := by decide +kernel
theorem dX3_timeLeft_72 : decode cX3_timeLeft 72 = .ok (.iload_n 3, 1) := by decide +kernel
theorem dX3_timeLeft_73 : decode cX3_timeLeft 73 = .ok (.iaload, 1) := by decide +kernel
theorem dX3_timeLeft_74 : decode cX3_timeLeft 74 = .ok (.aload_n 0, 1) := by decide +kernel
theorem dX3_timeLeft_75 : decode cX3_timeLeft 75 = .ok (.getfield 16, 3) := by decide +kernel
theorem dX3_timeLeft_78 : decode cX3_timeLeft 78 = .ok (.iload_n 3, 1) := by decide +kernel
theorem dX3_timeLeft_79 : decode cX3_timeLeft 79 = .ok (.iaload, 1) := by decide +kernel
theorem dX3_timeLeft_80 : decode cX3_timeLeft 80 = .ok (.invokestatic 40, 3) := by decide +kernel
theorem dX3_timeLeft_83 : decode cX3_timeLeft 83 = .ok (.iadd, 1) := by decide +kernel
theorem dX3_timeLeft_84 : decode cX3_timeLeft 84 = .ok (.istore_n 1, 1) := by decide +kernel
theorem dX3_timeLeft_85 : decode cX3_timeLeft 85 = .ok (.iload 4, 2) := by decide +kernel
theorem dX3_timeLeft_87 : decode cX3_timeLeft 87 = .ok (.istore_n 2, 1) := by decide +kernel
theorem dX3_timeLeft_88 : decode cX3_timeLeft 88 = .ok (.iinc 3 1, 3) := by decide +kernel
theorem dX3_timeLeft_91 : decode cX3_timeLeft 91 = .ok (.goto (-77), 3) := by decide +kernel
theorem dX3_timeLeft_94 : decode cX3_timeLeft 94 = .ok (.aload_n 0, 1) := by decide +kernel
theorem dX3_timeLeft_95 : decode cX3_timeLeft 95 = .ok (.getfield 57, 3) := by decide +kernel
theorem dX3_timeLeft_98 : decode cX3_timeLeft 98 = .ok (.ifCond .ne 7, 3) := by decide +kernel
theorem dX3_timeLeft_101 : decode cX3_timeLeft 101 = .ok (.iconst 0, 1) := by decide +kernel
theorem dX3_timeLeft_102 : decode cX3_timeLeft 102 = .ok (.goto 14, 3) := by decide +kernel
theorem dX3_timeLeft_105 : decode cX3_timeLeft 105 = .ok (.iload_n 1, 1) := by decide +kernel
theorem dX3_timeLeft_106 : decode cX3_timeLeft 106 = .ok (.aload_n 0, 1) := by decide +kernel
theorem dX3_timeLeft_107 : decode cX3_timeLeft 107 = .ok (.getfield 105, 3) := by decide +kernel
theorem dX3_timeLeft_110 : decode cX3_timeLeft 110 = .ok (.isub, 1) := by decide +kernel
theorem dX3_timeLeft_111 : decode cX3_timeLeft 111 = .ok (.aload_n 0, 1) := by decide +kernel
theorem dX3_timeLeft_112 : decode cX3_timeLeft 112 = .ok (.getfield 108, 3) := by decide +kernel
theorem dX3_timeLeft_115 : decode cX3_timeLeft 115 = .ok (.isub, 1) := by decide +kernel
theorem dX3_timeLeft_116 : decode cX3_timeLeft 116 = .ok (.ireturn, 1) := by decide +kernel
theorem dX3_stepsUp_0 : decode cX3_stepsUp 0 = .ok (.aload_n 0, 1) := by decide +kernel
theorem dX3_stepsUp_1 : decode cX3_stepsUp 1 = .ok (.iconst 0, 1) := by decide +kernel
theorem dX3_stepsUp_2 : decode cX3_stepsUp 2 = .ok (.putfield 28, 3) := by decide +kernel
theorem dX3_stepsUp_5 : decode cX3_stepsUp 5 = .ok (.aload_n 0, 1) := by decide +kernel
theorem dX3_stepsUp_6 : decode cX3_stepsUp 6 = .ok (.getfield 136, 3) := by decide +kernel
theorem dX3_stepsUp_9 : decode cX3_stepsUp 9 = .ok (.ireturn, 1) := by decide +kernel
theorem dX3_stepsDown_0 : decode cX3_stepsDown 0 = .ok (.aload_n 0, 1) := by decide +kernel
theorem dX3_stepsDown_1 : decode cX3_stepsDown 1 = .ok (.iconst 0, 1) := by decide +kernel
theorem dX3_stepsDown_2 : decode cX3_stepsDown 2 = .ok (.putfield 28, 3) := by decide +kernel
theorem dX3_stepsDown_5 : decode cX3_stepsDown 5 = .ok (.aload_n 0, 1) := by decide +kernel
theorem dX3_stepsDown_6 : decode cX3_stepsDown 6 = .ok (.getfield 133, 3) := by decide +kernel
theorem dX3_stepsDown_9 : decode cX3_stepsDown 9 = .ok (.ireturn, 1) := by decide +kernel
theorem dX3_isMarked_0 : decode cX3_isMarked 0 = .ok (.bipush 100, 2) := by decide +kernel
theorem dX3_isMarked_2 : decode cX3_isMarked 2 = .ok (.iload_n 2, 1) := by decide +kernel
theorem dX3_isMarked_3 : decode cX3_isMarked 3 = .ok (.imul, 1) := by decide +kernel
theorem dX3_isMarked_4 : decode cX3_isMarked 4 = .ok (.iload_n 1, 1) := by decide +kernel
theorem dX3_isMarked_5 : decode cX3_isMarked 5 = .ok (.iadd, 1) := by decide +kernel
theorem dX3_isMarked_6 : decode cX3_isMarked 6 = .ok (.istore_n 3, 1) := by decide +kernel
theorem dX3_isMarked_7 : decode cX3_isMarked 7 = .ok (.aload_n 0, 1) := by decide +kernel
theorem dX3_isMarked_8 : decode cX3_isMarked 8 = .ok (.iload_n 1, 1) := by decide +kernel
theorem dX3_isMarked_9 : decode cX3_isMarked 9 = .ok (.iload_n 2, 1) := by decide +kernel
theorem dX3_isMarked_10 : decode cX3_isMarked 10 = .ok (.invokestatic 50, 3) := by decide +kernel
theorem dX3_isMarked_13 : decode cX3_isMarked 13 = .ok (.ifCond .eq 7, 3) := by decide +kernel
theorem dX3_isMarked_16 : decode cX3_isMarked 16 = .ok (.iconst 0, 1) := by decide +kernel
theorem dX3_isMarked_17 : decode cX3_isMarked 17 = .ok (.goto 4, 3) := by decide +kernel
theorem dX3_isMarked_20 : decode cX3_isMarked 20 = .ok (.iconst 1, 1) := by decide +kernel
theorem dX3_isMarked_21 : decode cX3_isMarked 21 = .ok (.invokevirtual 92, 3) := by decide +kernel
theorem dX3_isMarked_24 : decode cX3_isMarked 24 = .ok (.ifCond .eq 27, 3) := by decide +kernel
theorem dX3_isMarked_27 : decode cX3_isMarked 27 = .ok (.aload_n 0, 1) := by decide +kernel
theorem dX3_isMarked_28 : decode cX3_isMarked 28 = .ok (.getfield 22, 3) := by decide +kernel
theorem dX3_isMarked_31 : decode cX3_isMarked 31 = .ok (.iload_n 3, 1) := by decide +kernel
theorem dX3_isMarked_32 : decode cX3_isMarked 32 = .ok (.bipush 32, 2) := by decide +kernel
theorem dX3_isMarked_34 : decode cX3_isMarked 34 = .ok (.idiv, 1) := by decide +kernel
theorem dX3_isMarked_35 : decode cX3_isMarked 35 = .ok (.iaload, 1) := by decide +kernel
theorem dX3_isMarked_36 : decode cX3_isMarked 36 = .ok (.iload_n 3, 1) := by decide +kernel
theorem dX3_isMarked_37 : decode cX3_isMarked 37 = .ok (.bipush 32, 2) := by decide +kernel
theorem dX3_isMarked_39 : decode cX3_isMarked 39 = .ok (.irem, 1) := by decide +kernel
theorem dX3_isMarked_40 : decode cX3_isMarked 40 = .ok (.ishr, 1) := by decide +kernel
theorem dX3_isMarked_41 : decode cX3_isMarked 41 = .ok (.iconst 1, 1) := by decide +kernel
theorem dX3_isMarked_42 : decode cX3_isMarked 42 = .ok (.iand, 1) := by decide +kernel
theorem dX3_isMarked_43 : decode cX3_isMarked 43 = .ok (.iconst 1, 1) := by decide +kernel
theorem dX3_isMarked_44 : decode cX3_isMarked 44 = .ok (.if_icmp .ne 7, 3) := by decide +kernel
theorem dX3_isMarked_47 : decode cX3_isMarked 47 = .ok (.iconst 1, 1) := by decide +kernel
theorem dX3_isMarked_48 : decode cX3_isMarked 48 = .ok (.goto 4, 3) := by decide +kernel
theorem dX3_isMarked_51 : decode cX3_isMarked 51 = .ok (.iconst 0, 1) := by decide +kernel
theorem dX3_isMarked_52 : decode cX3_isMarked 52 = .ok (.ireturn, 1) := by decide +kernel
theorem dX3_bits_0 : decode cX3_bits 0 = .ok (.iconst 0, 1) := by decide +kernel
theorem dX3_bits_1 : decode cX3_bits 1 = .ok (.istore_n 1, 1) := by decide +kernel
theorem dX3_bits_2 : decode cX3_bits 2 = .ok (.iconst 0, 1) := by decide +kernel
theorem dX3_bits_3 : decode cX3_bits 3 = .ok (.istore_n 2, 1) := by decide +kernel
theorem dX3_bits_4 : decode cX3_bits 4 = .ok (.iload_n 2, 1) := by decide +kernel
theorem dX3_bits_5 : decode cX3_bits 5 = .ok (.bipush 32, 2) := by decide +kernel
theorem dX3_bits_7 : decode cX3_bits 7 = .ok (.if_icmp .ge 17, 3) := by decide +kernel
theorem dX3_bits_10 : decode cX3_bits 10 = .ok (.iload_n 1, 1) := by decide +kernel
theorem dX3_bits_11 : decode cX3_bits 11 = .ok (.iload_n 0, 1) := by decide +kernel
theorem dX3_bits_12 : decode cX3_bits 12 = .ok (.iload_n 2, 1) := by decide +kernel
theorem dX3_bits_13 : decode cX3_bits 13 = .ok (.ishr, 1) := by decide +kernel
theorem dX3_bits_14 : decode cX3_bits 14 = .ok (.iconst 1, 1) := by decide +kernel
theorem dX3_bits_15 : decode cX3_bits 15 = .ok (.iand, 1) := by decide +kernel
theorem dX3_bits_16 : decode cX3_bits 16 = .ok (.iadd, 1) := by decide +kernel
theorem dX3_bits_17 : decode cX3_bits 17 = .ok (.istore_n 1, 1) := by decide +kernel
theorem dX3_bits_18 : decode cX3_bits 18 = .ok (.iinc 2 1, 3) := by decide +kernel
theorem dX3_bits_21 : decode cX3_bits 21 = .ok (.goto (-17), 3) := by decide +kernel
theorem dX3_bits_24 : decode cX3_bits 24 = .ok (.iload_n 1, 1) := by decide +kernel
theorem dX3_bits_25 : decode cX3_bits 25 = .ok (.ireturn, 1) := by decide +kernel
theorem dX3_marks_0 : decode cX3_marks 0 = .ok (.aload_n 0, 1) := by decide +kernel
theorem dX3_marks_1 : decode cX3_marks 1 = .ok (.iconst 0, 1) := by decide +kernel
theorem dX3_marks_2 : decode cX3_marks 2 = .ok (.putfield 28, 3) := by decide +kernel
theorem dX3_marks_5 : decode cX3_marks 5 = .ok (.iconst 0, 1) := by decide +kernel
theorem dX3_marks_6 : decode cX3_marks 6 = .ok (.istore_n 1, 1) := by decide +kernel
theorem dX3_marks_7 : decode cX3_marks 7 = .ok (.iconst 0, 1) := by decide +kernel
theorem dX3_marks_8 : decode cX3_marks 8 = .ok (.istore_n 2, 1) := by decide +kernel
theorem dX3_marks_9 : decode cX3_marks 9 = .ok (.iload_n 2, 1) := by decide +kernel
theorem dX3_marks_10 : decode cX3_marks 10 = .ok (.sipush 320, 3) := by decide +kernel
theorem dX3_marks_13 : decode cX3_marks 13 = .ok (.if_icmp .ge 21, 3) := by decide +kernel
theorem dX3_marks_16 : decode cX3_marks 16 = .ok (.iload_n 1, 1) := by decide +kernel
theorem dX3_marks_17 : decode cX3_marks 17 = .ok (.aload_n 0, 1) := by decide +kernel
theorem dX3_marks_18 : decode cX3_marks 18 = .ok (.getfield 22, 3) := by decide +kernel
theorem dX3_marks_21 : decode cX3_marks 21 = .ok (.iload_n 2, 1) := by decide +kernel
theorem dX3_marks_22 : decode cX3_marks 22 = .ok (.iaload, 1) := by decide +kernel
theorem dX3_marks_23 : decode cX3_marks 23 = .ok (.invokestatic 160, 3) := by decide +kernel
theorem dX3_marks_26 : decode cX3_marks 26 = .ok (.iadd, 1) := by decide +kernel
theorem dX3_marks_27 : decode cX3_marks 27 = .ok (.istore_n 1, 1) := by decide +kernel
theorem dX3_marks_28 : decode cX3_marks 28 = .ok (.iinc 2 1, 3) := by decide +kernel
theorem dX3_marks_31 : decode cX3_marks 31 = .ok (.goto (-22), 3) := by decide +kernel
theorem dX3_marks_34 : decode cX3_marks 34 = .ok (.iload_n 1, 1) := by decide +kernel
theorem dX3_marks_35 : decode cX3_marks 35 = .ok (.ireturn, 1) := by decide +kernel
theorem dX3_marksInTheEnd_0 : decode cX3_marksInTheEnd 0 = .ok (.aload_n 0, 1) := by decide +kernel
theorem dX3_marksInTheEnd_1 : decode cX3_marksInTheEnd 1 = .ok (.iconst 0, 1) := by decide +kernel
theorem dX3_marksInTheEnd_2 : decode cX3_marksInTheEnd 2 = .ok (.putfield 28, 3) := by decide +kernel
theorem dX3_marksInTheEnd_5 : decode cX3_marksInTheEnd 5 = .ok (.iconst 0, 1) := by decide +kernel
theorem dX3_marksInTheEnd_6 : decode cX3_marksInTheEnd 6 = .ok (.istore_n 1, 1) := by decide +kernel
theorem dX3_marksInTheEnd_7 : decode cX3_marksInTheEnd 7 = .ok (.iconst 0, 1) := by decide +kernel
theorem dX3_marksInTheEnd_8 : decode cX3_marksInTheEnd 8 = .ok (.istore_n 2, 1) := by decide +kernel
theorem dX3_marksInTheEnd_9 : decode cX3_marksInTheEnd 9 = .ok (.iload_n 2, 1) := by decide +kernel
theorem dX3_marksInTheEnd_10 : decode cX3_marksInTheEnd 10 = .ok (.sipush 320, 3) := by decide +kernel
theorem dX3_marksInTheEnd_13 : decode cX3_marksInTheEnd 13 = .ok (.if_icmp .ge 21, 3) := by decide +kernel
theorem dX3_marksInTheEnd_16 : decode cX3_marksInTheEnd 16 = .ok (.iload_n 1, 1) := by decide +kernel
theorem dX3_marksInTheEnd_17 : decode cX3_marksInTheEnd 17 = .ok (.aload_n 0, 1) := by decide +kernel
theorem dX3_marksInTheEnd_18 : decode cX3_marksInTheEnd 18 = .ok (.getfield 25, 3) := by decide +kernel
theorem dX3_marksInTheEnd_21 : decode cX3_marksInTheEnd 21 = .ok (.iload_n 2, 1) := by decide +kernel
theorem dX3_marksInTheEnd_22 : decode cX3_marksInTheEnd 22 = .ok (.iaload, 1) := by decide +kernel
theorem dX3_marksInTheEnd_23 : decode cX3_marksInTheEnd 23 = .ok (.invokestatic 160, 3) := by decide +kernel
theorem dX3_marksInTheEnd_26 : decode cX3_marksInTheEnd 26 = .ok (.iadd, 1) := by decide +kernel
theorem dX3_marksInTheEnd_27 : decode cX3_marksInTheEnd 27 = .ok (.istore_n 1, 1) := by decide +kernel
theorem dX3_marksInTheEnd_28 : decode cX3_marksInTheEnd 28 = .ok (.iinc 2 1, 3) := by decide +kernel
theorem dX3_marksInTheEnd_31 : decode cX3_marksInTheEnd 31 = .ok (.goto (-22), 3) := by decide +kernel
theorem dX3_marksInTheEnd_34 : decode cX3_marksInTheEnd 34 = .ok (.iload_n 1, 1) := by decide +kernel
theorem dX3_marksInTheEnd_35 : decode cX3_marksInTheEnd 35 = .ok (.ireturn, 1) := by decide +kernel
