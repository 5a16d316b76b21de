theorem dX0_init_0 : decode cX0_init 0 = .ok (.aload_n 0, 1) := by decide +kernel
theorem dX0_init_1 : decode cX0_init 1 = .ok (.invokespecial 3, 3) := by decide +kernel
theorem dX0_init_4 : decode cX0_init 4 = .ok (.aload_n 0, 1) := by decide +kernel
theorem dX0_init_5 : decode cX0_init 5 = .ok (.iload_n 1, 1) := by decide +kernel
theorem dX0_init_6 : decode cX0_init 6 = .ok (.putfield 9, 3) := by decide +kernel
theorem dX0_init_9 : decode cX0_init 9 = .ok (.aload_n 0, 1) := by decide +kernel
theorem dX0_init_10 : decode cX0_init 10 = .ok (.iload_n 2, 1) := by decide +kernel
theorem dX0_init_11 : decode cX0_init 11 = .ok (.putfield 15, 3) := by decide +kernel
theorem dX0_init_14 : decode cX0_init 14 = .ok (.aload_n 0, 1) := by decide +kernel
theorem dX0_init_15 : decode cX0_init 15 = .ok (.iload_n 3, 1) := by decide +kernel
theorem dX0_init_16 : decode cX0_init 16 = .ok (.putfield 18, 3) := by decide +kernel
theorem dX0_init_19 : decode cX0_init 19 = .ok (.aload_n 0, 1) := by decide +kernel
theorem dX0_init_20 : decode cX0_init 20 = .ok (.iload 4, 2) := by decide +kernel
theorem dX0_init_22 : decode cX0_init 22 = .ok (.putfield 21, 3) := by decide +kernel
theorem dX0_init_25 : decode cX0_init 25 = .ok (.return_, 1) := by decide +kernel
theorem dX0_draws_0 : decode cX0_draws 0 = .ok (.aload_n 0, 1) := by decide +kernel
theorem dX0_draws_1 : decode cX0_draws 1 = .ok (.getfield 9, 3) := by decide +kernel
theorem dX0_draws_4 : decode cX0_draws 4 = .ok (.iconst 2, 1) := by decide +kernel
theorem dX0_draws_5 : decode cX0_draws 5 = .ok (.if_icmp .ne 7, 3) := by decide +kernel
theorem dX0_draws_8 : decode cX0_draws 8 = .ok (.iconst 1, 1) := by decide +kernel
theorem dX0_draws_9 : decode cX0_draws 9 = .ok (.goto 4, 3) := by decide +kernel
theorem dX0_draws_12 : decode cX0_draws 12 = .ok (.iconst 0, 1) := by decide +kernel
theorem dX0_draws_13 : decode cX0_draws 13 = .ok (.ireturn, 1) := by decide +kernel
theorem dX0_steps_0 : decode cX0_steps 0 = .ok (.aload_n 0, 1) := by decide +kernel
theorem dX0_steps_1 : decode cX0_steps 1 = .ok (.getfield 15, 3) := by decide +kernel
theorem dX0_steps_4 : decode cX0_steps 4 = .ok (.invokestatic 24, 3) := by decide +kernel
theorem dX0_steps_7 : decode cX0_steps 7 = .ok (.aload_n 0, 1) := by decide +kernel
theorem dX0_steps_8 : decode cX0_steps 8 = .ok (.getfield 18, 3) := by decide +kernel
theorem dX0_steps_11 : decode cX0_steps 11 = .ok (.invokestatic 24, 3) := by decide +kernel
theorem dX0_steps_14 : decode cX0_steps 14 = .ok (.invokestatic 30, 3) := by decide +kernel
theorem dX0_steps_17 : decode cX0_steps 17 = .ok (.ireturn, 1) := by decide +kernel
theorem dX0_wayX_0 : decode cX0_wayX 0 = .ok (.aload_n 0, 1) := by decide +kernel
theorem dX0_wayX_1 : decode cX0_wayX 1 = .ok (.aload_n 0, 1) := by decide +kernel
theorem dX0_wayX_2 : decode cX0_wayX 2 = .ok (.getfield 15, 3) := by decide +kernel
theorem dX0_wayX_5 : decode cX0_wayX 5 = .ok (.iload_n 1, 1) := by decide +kernel
theorem dX0_wayX_6 : decode cX0_wayX 6 = .ok (.invokevirtual 34, 3) := by decide +kernel
theorem dX0_wayX_9 : decode cX0_wayX 9 = .ok (.ireturn, 1) := by decide +kernel
theorem dX0_wayY_0 : decode cX0_wayY 0 = .ok (.aload_n 0, 1) := by decide +kernel
theorem dX0_wayY_1 : decode cX0_wayY 1 = .ok (.aload_n 0, 1) := by decide +kernel
theorem dX0_wayY_2 : decode cX0_wayY 2 = .ok (.getfield 18, 3) := by decide +kernel
theorem dX0_wayY_5 : decode cX0_wayY 5 = .ok (.iload_n 1, 1) := by decide +kernel
theorem dX0_wayY_6 : decode cX0_wayY 6 = .ok (.invokevirtual 34, 3) := by decide +kernel
theorem dX0_wayY_9 : decode cX0_wayY 9 = .ok (.ireturn, 1) := by decide +kernel
theorem dX0_way_0 : decode cX0_way 0 = .ok (.aload_n 0, 1) := by decide +kernel
theorem dX0_way_1 : decode cX0_way 1 = .ok (.invokevirtual 37, 3) := by decide +kernel
theorem dX0_way_4 : decode cX0_way 4 = .ok (.istore_n 3, 1) := by decide +kernel
theorem dX0_way_5 : decode cX0_way 5 = .ok (.iload_n 3, 1) := by decide +kernel
theorem dX0_way_6 : decode cX0_way 6 = .ok (.ifCond .ne 7, 3) := by decide +kernel
theorem dX0_way_9 : decode cX0_way 9 = .ok (.iconst 0, 1) := by decide +kernel
theorem dX0_way_10 : decode cX0_way 10 = .ok (.goto 8, 3) := by decide +kernel
theorem dX0_way_13 : decode cX0_way 13 = .ok (.iload_n 1, 1) := by decide +kernel
theorem dX0_way_14 : decode cX0_way 14 = .ok (.iload_n 2, 1) := by decide +kernel
theorem dX0_way_15 : decode cX0_way 15 = .ok (.imul, 1) := by decide +kernel
theorem dX0_way_16 : decode cX0_way 16 = .ok (.iload_n 3, 1) := by decide +kernel
theorem dX0_way_17 : decode cX0_way 17 = .ok (.idiv, 1) := by decide +kernel
theorem dX0_way_18 : decode cX0_way 18 = .ok (.ireturn, 1) := by decide +kernel
theorem dX1_init_0 : decode cX1_init 0 = .ok (.aload_n 0, 1) := by decide +kernel
theorem dX1_init_1 : decode cX1_init 1 = .ok (.invokespecial 5, 3) := by decide +kernel
theorem dX1_init_4 : decode cX1_init 4 = .ok (.aload_n 0, 1) := by decide +kernel
theorem dX1_init_5 : decode cX1_init 5 = .ok (.sipush 157, 3) := by decide +kernel
theorem dX1_init_8 : decode cX1_init 8 = .ok (.newarray .long, 2) := by decide +kernel
theorem dX1_init_10 : decode cX1_init 10 = .ok (.putfield 11, 3) := by decide +kernel
theorem dX1_init_13 : decode cX1_init 13 = .ok (.return_, 1) := by decide +kernel
theorem dX1_hasMark_0 : decode cX1_hasMark 0 = .ok (.iload_n 1, 1) := by decide +kernel
theorem dX1_hasMark_1 : decode cX1_hasMark 1 = .ok (.iload_n 2, 1) := by decide +kernel
theorem dX1_hasMark_2 : decode cX1_hasMark 2 = .ok (.invokestatic 15, 3) := by decide +kernel
theorem dX1_hasMark_5 : decode cX1_hasMark 5 = .ok (.istore_n 3, 1) := by decide +kernel
theorem dX1_hasMark_6 : decode cX1_hasMark 6 = .ok (.iload_n 3, 1) := by decide +kernel
theorem dX1_hasMark_7 : decode cX1_hasMark 7 = .ok (.ifCond .lt 33, 3) := by decide +kernel
theorem dX1_hasMark_10 : decode cX1_hasMark 10 = .ok (.iload_n 3, 1) := by decide +kernel
theorem dX1_hasMark_11 : decode cX1_hasMark 11 = .ok (.aload_n 0, 1) := by decide +kernel
theorem dX1_hasMark_12 : decode cX1_hasMark 12 = .ok (.getfield 11, 3) := by decide +kernel
theorem dX1_hasMark_15 : decode cX1_hasMark 15 = .ok (.arraylength, 1) := by decide +kernel
theorem dX1_hasMark_16 : decode cX1_hasMark 16 = .ok (.if_icmp .ge 24, 3) := by decide +kernel
theorem dX1_hasMark_19 : decode cX1_hasMark 19 = .ok (.aload_n 0, 1) := by decide +kernel
theorem dX1_hasMark_20 : decode cX1_hasMark 20 = .ok (.getfield 11, 3) := by decide +kernel
theorem dX1_hasMark_23 : decode cX1_hasMark 23 = .ok (.iload_n 3, 1) := by decide +kernel
theorem dX1_hasMark_24 : decode cX1_hasMark 24 = .ok (.laload, 1) := by decide +kernel
theorem dX1_hasMark_25 : decode cX1_hasMark 25 = .ok (.iload_n 1, 1) := by decide +kernel
theorem dX1_hasMark_26 : decode cX1_hasMark 26 = .ok (.iload_n 2, 1) := by decide +kernel
theorem dX1_hasMark_27 : decode cX1_hasMark 27 = .ok (.invokestatic 19, 3) := by decide +kernel
theorem dX1_hasMark_30 : decode cX1_hasMark 30 = .ok (.land, 1) := by decide +kernel
theorem dX1_hasMark_31 : decode cX1_hasMark 31 = .ok (.lconst 0, 1) := by decide +kernel
theorem dX1_hasMark_32 : decode cX1_hasMark 32 = .ok (.lcmp, 1) := by decide +kernel
theorem dX1_hasMark_33 : decode cX1_hasMark 33 = .ok (.ifCond .eq 7, 3) := by decide +kernel
theorem dX1_hasMark_36 : decode cX1_hasMark 36 = .ok (.iconst 1, 1) := by decide +kernel
theorem dX1_hasMark_37 : decode cX1_hasMark 37 = .ok (.goto 4, 3) := by decide +kernel
theorem dX1_hasMark_40 : decode cX1_hasMark 40 = .ok (.iconst 0, 1) := by decide +kernel
theorem dX1_hasMark_41 : decode cX1_hasMark 41 = .ok (.ireturn, 1) := by decide +kernel
theorem dX1_putMark_0 : decode cX1_putMark 0 = .ok (.iload_n 1, 1) := by decide +kernel
theorem dX1_putMark_1 : decode cX1_putMark 1 = .ok (.iload_n 2, 1) := by decide +kernel
theorem dX1_putMark_2 : decode cX1_putMark 2 = .ok (.invokestatic 15, 3) := by decide +kernel
theorem dX1_putMark_5 : decode cX1_putMark 5 = .ok (.istore_n 3, 1) := by decide +kernel
theorem dX1_putMark_6 : decode cX1_putMark 6 = .ok (.iload_n 3, 1) := by decide +kernel
theorem dX1_putMark_7 : decode cX1_putMark 7 = .ok (.ifCond .lt 21, 3) := by decide +kernel
theorem dX1_putMark_10 : decode cX1_putMark 10 = .ok (.iload_n 3, 1) := by decide +kernel
theorem dX1_putMark_11 : decode cX1_putMark 11 = .ok (.aload_n 0, 1) := by decide +kernel
theorem dX1_putMark_12 : decode cX1_putMark 12 = .ok (.getfield 11, 3) := by decide +kernel
theorem dX1_putMark_15 : decode cX1_putMark 15 = .ok (.arraylength, 1) := by decide +kernel
theorem dX1_putMark_16 : decode cX1_putMark 16 = .ok (.if_icmp .ge 12, 3) := by decide +kernel
theorem dX1_putMark_19 : decode cX1_putMark 19 = .ok (.aload_n 0, 1) := by decide +kernel
theorem dX1_putMark_20 : decode cX1_putMark 20 = .ok (.iload_n 1, 1) := by decide +kernel
theorem dX1_putMark_21 : decode cX1_putMark 21 = .ok (.iload_n 2, 1) := by decide +kernel
theorem dX1_putMark_22 : decode cX1_putMark 22 = .ok (.invokevirtual 23, 3) := by decide +kernel
theorem dX1_putMark_25 : decode cX1_putMark 25 = .ok (.ifCond .eq 4, 3) := by decide +kernel
theorem dX1_putMark_28 : decode cX1_putMark 28 = .ok (.return_, 1) := by decide +kernel
theorem dX1_putMark_29 : decode cX1_putMark 29 = .ok (.aload_n 0, 1) := by decide +kernel
theorem dX1_putMark_30 : decode cX1_putMark 30 = .ok (.getfield 11, 3) := by decide +kernel
theorem dX1_putMark_33 : decode cX1_putMark 33 = .ok (.iload_n 3, 1) := by decide +kernel
theorem dX1_putMark_34 : decode cX1_putMark 34 = .ok (.dup2, 1) := by decide +kernel
theorem dX1_putMark_35 : decode cX1_putMark 35 = .ok (.laload, 1) := by decide +kernel
theorem dX1_putMark_36 : decode cX1_putMark 36 = .ok (.iload_n 1, 1) := by decide +kernel
theorem dX1_putMark_37 : decode cX1_putMark 37 = .ok (.iload_n 2, 1) := by decide +kernel
theorem dX1_putMark_38 : decode cX1_putMark 38 = .ok (.invokestatic 19, 3) := by decide +kernel
theorem dX1_putMark_41 : decode cX1_putMark 41 = .ok (.lor, 1) := by decide +kernel
theorem dX1_putMark_42 : decode cX1_putMark 42 = .ok (.lastore, 1) := by decide +kernel
theorem dX1_putMark_43 : decode cX1_putMark 43 = .ok (.aload_n 0, 1) := by decide +kernel
theorem dX1_putMark_44 : decode cX1_putMark 44 = .ok (.dup, 1) := by decide +kernel
theorem dX1_putMark_45 : decode cX1_putMark 45 = .ok (.getfield 27, 3) := by decide +kernel
theorem dX1_putMark_48 : decode cX1_putMark 48 = .ok (.iconst 1, 1) := by decide +kernel
theorem dX1_putMark_49 : decode cX1_putMark 49 = .ok (.iadd, 1) := by decide +kernel
theorem dX1_putMark_50 : decode cX1_putMark 50 = .ok (.putfield 27, 3) := by decide +kernel
theorem dX1_putMark_53 : decode cX1_putMark 53 = .ok (.return_, 1) := by decide +kernel
theorem dX1_wordOf_0 : decode cX1_wordOf 0 = .ok (.iload_n 0, 1) := by decide +kernel
theorem dX1_wordOf_1 : decode cX1_wordOf 1 = .ok (.iload_n 1, 1) := by decide +kernel
theorem dX1_wordOf_2 : decode cX1_wordOf 2 = .ok (.invokestatic 31, 3) := by decide +kernel
theorem dX1_wordOf_5 : decode cX1_wordOf 5 = .ok (.ifCond .eq 15, 3) := by decide +kernel
theorem dX1_wordOf_8 : decode cX1_wordOf 8 = .ok (.bipush 100, 2) := by decide +kernel
theorem dX1_wordOf_10 : decode cX1_wordOf 10 = .ok (.iload_n 1, 1) := by decide +kernel
theorem dX1_wordOf_11 : decode cX1_wordOf 11 = .ok (.imul, 1) := by decide +kernel
theorem dX1_wordOf_12 : decode cX1_wordOf 12 = .ok (.iload_n 0, 1) := by decide +kernel
theorem dX1_wordOf_13 : decode cX1_wordOf 13 = .ok (.iadd, 1) := by decide +kernel
theorem dX1_wordOf_14 : decode cX1_wordOf 14 = .ok (.bipush 64, 2) := by decide +kernel
theorem dX1_wordOf_16 : decode cX1_wordOf 16 = .ok (.idiv, 1) := by decide +kernel
theorem dX1_wordOf_17 : decode cX1_wordOf 17 = .ok (.goto 4, 3) := by decide +kernel
theorem dX1_wordOf_20 : decode cX1_wordOf 20 = .ok (.iconst (-1), 1) := by decide +kernel
theorem dX1_wordOf_21 : decode cX1_wordOf 21 = .ok (.ireturn, 1) := by decide +kernel
theorem dX1_bitOf_0 : decode cX1_bitOf 0 = .ok (.lconst 1, 1) := by decide +kernel
theorem dX1_bitOf_1 : decode cX1_bitOf 1 = .ok (.bipush 100, 2) := by decide +kernel
theorem dX1_bitOf_3 : decode cX1_bitOf 3 = .ok (.iload_n 1, 1) := by decide +kernel
theorem dX1_bitOf_4 : decode cX1_bitOf 4 = .ok (.imul, 1) := by decide +kernel
theorem dX1_bitOf_5 : decode cX1_bitOf 5 = .ok (.iload_n 0, 1) := by decide +kernel
theorem dX1_bitOf_6 : decode cX1_bitOf 6 = .ok (.iadd, 1) := by decide +kernel
theorem dX1_bitOf_7 : decode cX1_bitOf 7 = .ok (.bipush 64, 2) := by decide +kernel
theorem dX1_bitOf_9 : decode cX1_bitOf 9 = .ok (.irem, 1) := by decide +kernel
theorem dX1_bitOf_10 : decode cX1_bitOf 10 = .ok (.lshl, 1) := by decide +kernel
theorem dX1_bitOf_11 : decode cX1_bitOf 11 = .ok (.lreturn, 1) := by decide +kernel
theorem dX2_init_0 : decode cX2_init 0 = .ok (.aload_n 0, 1) := by decide +kernel
theorem dX2_init_1 : decode cX2_init 1 = .ok (.invokespecial 1, 3) := by decide +kernel
theorem dX2_init_4 : decode cX2_init 4 = .ok (.aload_n 0, 1) := by decide +kernel
theorem dX2_init_5 : decode cX2_init 5 = .ok (.new 7, 3) := by decide +kernel
theorem dX2_init_8 : decode cX2_init 8 = .ok (.dup, 1) := by decide +kernel
theorem dX2_init_9 : decode cX2_init 9 = .ok (.invokespecial 9, 3) := by decide +kernel
theorem dX2_init_12 : decode cX2_init 12 = .ok (.putfield 10, 3) := by decide +kernel
theorem dX2_init_15 : decode cX2_init 15 = .ok (.aload_n 0, 1) := by decide +kernel
theorem dX2_init_16 : decode cX2_init 16 = .ok (.new 16, 3) := by decide +kernel
theorem dX2_init_19 : decode cX2_init 19 = .ok (.dup, 1) := by decide +kernel
theorem dX2_init_20 : decode cX2_init 20 = .ok (.invokespecial 18, 3) := by decide +kernel
theorem dX2_init_23 : decode cX2_init 23 = .ok (.putfield 19, 3) := by decide +kernel
theorem dX2_init_26 : decode cX2_init 26 = .ok (.aload_n 0, 1) := by decide +kernel
theorem dX2_init_27 : decode cX2_init 27 = .ok (.new 16, 3) := by decide +kernel
theorem dX2_init_30 : decode cX2_init 30 = .ok (.dup, 1) := by decide +kernel
theorem dX2_init_31 : decode cX2_init 31 = .ok (.invokespecial 18, 3) := by decide +kernel
theorem dX2_init_34 : decode cX2_init 34 = .ok (.putfield 23, 3) := by decide +kernel
theorem dX2_init_37 : decode cX2_init 37 = .ok (.aload_n 0, 1) := by decide +kernel
theorem dX2_init_38 : decode cX2_init 38 = .ok (.iconst 3, 1) := by decide +kernel
theorem dX2_init_39 : decode cX2_init 39 = .ok (.newarray .int, 2) := by decide +kernel
theorem dX2_init_41 : decode cX2_init 41 = .ok (.putfield 26, 3) := by decide +kernel
theorem dX2_init_44 : decode cX2_init 44 = .ok (.iconst 0, 1) := by decide +kernel
theorem dX2_init_45 : decode cX2_init 45 = .ok (.istore_n 1, 1) := by decide +kernel
theorem dX2_init_46 : decode cX2_init 46 = .ok (.iload_n 1, 1) := by decide +kernel
theorem dX2_init_47 : decode cX2_init 47 = .ok (.aload_n 0, 1) := by decide +kernel
theorem dX2_init_48 : decode cX2_init 48 = .ok (.getfield 26, 3) := by decide +kernel
theorem dX2_init_51 : decode cX2_init 51 = .ok (.arraylength, 1) := by decide +kernel
theorem dX2_init_52 : decode cX2_init 52 = .ok (.if_icmp .ge 18, 3) := by decide +kernel
theorem dX2_init_55 : decode cX2_init 55 = .ok (.aload_n 0, 1) := by decide +kernel
theorem dX2_init_56 : decode cX2_init 56 = .ok (.getfield 26, 3) := by decide +kernel
theorem dX2_init_59 : decode cX2_init 59 = .ok (.iload_n 1, 1) := by decide +kernel
theorem dX2_init_60 : decode cX2_init 60 = .ok (.sipush 500, 3) := by decide +kernel
theorem dX2_init_63 : decode cX2_init 63 = .ok (.iastore, 1) := by decide +kernel
theorem dX2_init_64 : decode cX2_init 64 = .ok (.iinc 1 1, 3) := by decide +kernel
theorem dX2_init_67 : decode cX2_init 67 = .ok (.goto (-21), 3) := by decide +kernel
theorem dX2_init_70 : decode cX2_init 70 = .ok (.return_, 1) := by decide +kernel
theorem dX2_feed_0 : decode cX2_feed 0 = .ok (.iload_n 1, 1) := by decide +kernel
theorem dX2_feed_1 : decode cX2_feed 1 = .ok (.ifCond .lt 10, 3) := by decide +kernel
theorem dX2_feed_4 : decode cX2_feed 4 = .ok (.iload_n 1, 1) := by decide +kernel
theorem dX2_feed_5 : decode cX2_feed 5 = .ok (.sipush 255, 3) := by decide +kernel
theorem dX2_feed_8 : decode cX2_feed 8 = .ok (.if_icmp .le 13, 3) := by decide +kernel
theorem dX2_feed_11 : decode cX2_feed 11 = .ok (.new 30, 3) := by decide +kernel
theorem dX2_feed_14 : decode cX2_feed 14 = .ok (.dup, 1) := by decide +kernel
theorem dX2_feed_15 : decode cX2_feed 15 = .ok (.ldc 32, 2) := by decide +kernel
theorem dX2_feed_17 : decode cX2_feed 17 = .ok (.invokespecial 34, 3) := by decide +kernel
theorem dX2_feed_20 : decode cX2_feed 20 = .ok (.athrow, 1) := by decide +kernel
theorem dX2_feed_21 : decode cX2_feed 21 = .ok (.aload_n 0, 1) := by decide +kernel
theorem dX2_feed_22 : decode cX2_feed 22 = .ok (.getfield 10, 3) := by decide +kernel
theorem dX2_feed_25 : decode cX2_feed 25 = .ok (.invokevirtual 37, 3) := by decide +kernel
theorem dX2_feed_28 : decode cX2_feed 28 = .ok (.bipush 8, 2) := by decide +kernel
theorem dX2_feed_30 : decode cX2_feed 30 = .ok (.if_icmp .lt 5, 3) := by decide +kernel
theorem dX2_feed_33 : decode cX2_feed 33 = .ok (.iconst 0, 1) := by decide +kernel
theorem dX2_feed_34 : decode cX2_feed 34 = .ok (.ireturn, 1) := by decide +kernel
theorem dX2_feed_35 : decode cX2_feed 35 = .ok (.aload_n 0, 1) := by decide +kernel
theorem dX2_feed_36 : decode cX2_feed 36 = .ok (.iload_n 1, 1) := by decide +kernel
theorem dX2_feed_37 : decode cX2_feed 37 = .ok (.invokevirtual 41, 3) := by decide +kernel
theorem dX2_feed_40 : decode cX2_feed 40 = .ok (.iconst 1, 1) := by decide +kernel
theorem dX2_feed_41 : decode cX2_feed 41 = .ok (.ireturn, 1) := by decide +kernel
theorem dX2_errors_0 : decode cX2_errors 0 = .ok (.aload_n 0, 1) := by decide +kernel
theorem dX2_errors_1 : decode cX2_errors 1 = .ok (.getfield 45, 3) := by decide +kernel
theorem dX2_errors_4 : decode cX2_errors 4 = .ok (.ireturn, 1) := by decide +kernel
theorem dX2_queued_0 : decode cX2_queued 0 = .ok (.aload_n 0, 1) := by decide +kernel
theorem dX2_queued_1 : decode cX2_queued 1 = .ok (.getfield 10, 3) := by decide +kernel
theorem dX2_queued_4 : decode cX2_queued 4 = .ok (.invokevirtual 37, 3) := by decide +kernel
theorem dX2_queued_7 : decode cX2_queued 7 = .ok (.ireturn, 1) := by decide +kernel
theorem dX2_pending_0 : decode cX2_pending 0 = .ok (.aload_n 0, 1) := by decide +kernel
theorem dX2_pending_1 : decode cX2_pending 1 = .ok (.getfield 49, 3) := by decide +kernel
theorem dX2_pending_4 : decode cX2_pending 4 = .ok (.ireturn, 1) := by decide +kernel
theorem dX2_takeByte_0 : decode cX2_takeByte 0 = .ok (.aload_n 0, 1) := by decide +kernel
theorem dX2_takeByte_1 : decode cX2_takeByte 1 = .ok (.getfield 49, 3) := by decide +kernel
theorem dX2_takeByte_4 : decode cX2_takeByte 4 = .ok (.ifCond .ne 11, 3) := by decide +kernel
theorem dX2_takeByte_7 : decode cX2_takeByte 7 = .ok (.aload_n 0, 1) := by decide +kernel
theorem dX2_takeByte_8 : decode cX2_takeByte 8 = .ok (.iload_n 1, 1) := by decide +kernel
theorem dX2_takeByte_9 : decode cX2_takeByte 9 = .ok (.invokevirtual 52, 3) := by decide +kernel
theorem dX2_takeByte_12 : decode cX2_takeByte 12 = .ok (.goto 50, 3) := by decide +kernel
theorem dX2_takeByte_15 : decode cX2_takeByte 15 = .ok (.aload_n 0, 1) := by decide +kernel
theorem dX2_takeByte_16 : decode cX2_takeByte 16 = .ok (.getfield 49, 3) := by decide +kernel
theorem dX2_takeByte_19 : decode cX2_takeByte 19 = .ok (.iconst 1, 1) := by decide +kernel
theorem dX2_takeByte_20 : decode cX2_takeByte 20 = .ok (.if_icmp .ne 32, 3) := by decide +kernel
theorem dX2_takeByte_23 : decode cX2_takeByte 23 = .ok (.aload_n 0, 1) := by decide +kernel
theorem dX2_takeByte_24 : decode cX2_takeByte 24 = .ok (.getfield 55, 3) := by decide +kernel
theorem dX2_takeByte_27 : decode cX2_takeByte 27 = .ok (.iconst 1, 1) := by decide +kernel
theorem dX2_takeByte_28 : decode cX2_takeByte 28 = .ok (.if_icmp .eq 11, 3) := by decide +kernel
theorem dX2_takeByte_31 : decode cX2_takeByte 31 = .ok (.aload_n 0, 1) := by decide +kernel
theorem dX2_takeByte_32 : decode cX2_takeByte 32 = .ok (.getfield 55, 3) := by decide +kernel
theorem dX2_takeByte_35 : decode cX2_takeByte 35 = .ok (.iconst 2, 1) := by decide +kernel
theorem dX2_takeByte_36 : decode cX2_takeByte 36 = .ok (.if_icmp .ne 16, 3) := by decide +kernel
theorem dX2_takeByte_39 : decode cX2_takeByte 39 = .ok (.aload_n 0, 1) := by decide +kernel
theorem dX2_takeByte_40 : decode cX2_takeByte 40 = .ok (.iload_n 1, 1) := by decide +kernel
theorem dX2_takeByte_41 : decode cX2_takeByte 41 = .ok (.putfield 58, 3) := by decide +kernel
theorem dX2_takeByte_44 : decode cX2_takeByte 44 = .ok (.aload_n 0, 1) := by decide +kernel
theorem dX2_takeByte_45 : decode cX2_takeByte 45 = .ok (.iconst 2, 1) := by decide +kernel
theorem dX2_takeByte_46 : decode cX2_takeByte 46 = .ok (.putfield 49, 3) := by decide +kernel
theorem dX2_takeByte_49 : decode cX2_takeByte 49 = .ok (.goto 13, 3) := by decide +kernel
theorem dX2_takeByte_52 : decode cX2_takeByte 52 = .ok (.aload_n 0, 1) := by decide +kernel
theorem dX2_takeByte_53 : decode cX2_takeByte 53 = .ok (.iconst 0, 1) := by decide +kernel
theorem dX2_takeByte_54 : decode cX2_takeByte 54 = .ok (.putfield 49, 3) := by decide +kernel
theorem dX2_takeByte_57 : decode cX2_takeByte 57 = .ok (.aload_n 0, 1) := by decide +kernel
theorem dX2_takeByte_58 : decode cX2_takeByte 58 = .ok (.iload_n 1, 1) := by decide +kernel
theorem dX2_takeByte_59 : decode cX2_takeByte 59 = .ok (.invokevirtual 61, 3) := by decide +kernel
theorem dX2_takeByte_62 : decode cX2_takeByte 62 = .ok (.return_, 1) := by decide +kernel
theorem dX2_beginCommand_0 : decode cX2_beginCommand 0 = .ok (.iload_n 1, 1) := by decide +kernel
theorem dX2_beginCommand_1 : decode cX2_beginCommand 1 = .ok (.iconst 1, 1) := by decide +kernel
theorem dX2_beginCommand_2 : decode cX2_beginCommand 2 = .ok (.if_icmp .lt 21, 3) := by decide +kernel
theorem dX2_beginCommand_5 : decode cX2_beginCommand 5 = .ok (.iload_n 1, 1) := by decide +kernel
theorem dX2_beginCommand_6 : decode cX2_beginCommand 6 = .ok (.iconst 4, 1) := by decide +kernel
theorem dX2_beginCommand_7 : decode cX2_beginCommand 7 = .ok (.if_icmp .gt 16, 3) := by decide +kernel
theorem dX2_beginCommand_10 : decode cX2_beginCommand 10 = .ok (.aload_n 0, 1) := by decide +kernel
theorem dX2_beginCommand_11 : decode cX2_beginCommand 11 = .ok (.iload_n 1, 1) := by decide +kernel
theorem dX2_beginCommand_12 : decode cX2_beginCommand 12 = .ok (.putfield 55, 3) := by decide +kernel
theorem dX2_beginCommand_15 : decode cX2_beginCommand 15 = .ok (.aload_n 0, 1) := by decide +kernel
theorem dX2_beginCommand_16 : decode cX2_beginCommand 16 = .ok (.iconst 1, 1) := by decide +kernel
theorem dX2_beginCommand_17 : decode cX2_beginCommand 17 = .ok (.putfield 49, 3) := by decide +kernel
theorem dX2_beginCommand_20 : decode cX2_beginCommand 20 = .ok (.goto 17, 3) := by decide +kernel
theorem dX2_beginCommand_23 : decode cX2_beginCommand 23 = .ok (.iload_n 1, 1) := by decide +kernel
theorem dX2_beginCommand_24 : decode cX2_beginCommand 24 = .ok (.ifCond .eq 13, 3) := by decide +kernel
theorem dX2_beginCommand_27 : decode cX2_beginCommand 27 = .ok (.aload_n 0, 1) := by decide +kernel
theorem dX2_beginCommand_28 : decode cX2_beginCommand 28 = .ok (.dup, 1) := by decide +kernel
theorem dX2_beginCommand_29 : decode cX2_beginCommand 29 = .ok (.getfield 45, 3) := by decide +kernel
theorem dX2_beginCommand_32 : decode cX2_beginCommand 32 = .ok (.iconst 1, 1) := by decide +kernel
theorem dX2_beginCommand_33 : decode cX2_beginCommand 33 = .ok (.iadd, 1) := by decide +kernel
theorem dX2_beginCommand_34 : decode cX2_beginCommand 34 = .ok (.putfield 45, 3) := by decide +kernel
theorem dX2_beginCommand_37 : decode cX2_beginCommand 37 = .ok (.return_, 1) := by decide +kernel
theorem dX2_endCommand_0 : decode cX2_endCommand 0 = .ok (.aload_n 0, 1) := by decide +kernel
theorem dX2_endCommand_1 : decode cX2_endCommand 1 = .ok (.getfield 55, 3) := by decide +kernel
theorem dX2_endCommand_4 : decode cX2_endCommand 4 = .ok (.iconst 4, 1) := by decide +kernel
theorem dX2_endCommand_5 : decode cX2_endCommand 5 = .ok (.if_icmp .ne 11, 3) := by decide +kernel
theorem dX2_endCommand_8 : decode cX2_endCommand 8 = .ok (.aload_n 0, 1) := by decide +kernel
theorem dX2_endCommand_9 : decode cX2_endCommand 9 = .ok (.iload_n 1, 1) := by decide +kernel
theorem dX2_endCommand_10 : decode cX2_endCommand 10 = .ok (.invokevirtual 64, 3) := by decide +kernel
theorem dX2_endCommand_13 : decode cX2_endCommand 13 = .ok (.goto 57, 3) := by decide +kernel
theorem dX2_endCommand_16 : decode cX2_endCommand 16 = .ok (.aload_n 0, 1) := by decide +kernel
theorem dX2_endCommand_17 : decode cX2_endCommand 17 = .ok (.getfield 55, 3) := by decide +kernel
theorem dX2_endCommand_20 : decode cX2_endCommand 20 = .ok (.iconst 3, 1) := by decide +kernel
theorem dX2_endCommand_21 : decode cX2_endCommand 21 = .ok (.if_icmp .ne 22, 3) := by decide +kernel
theorem dX2_endCommand_24 : decode cX2_endCommand 24 = .ok (.aload_n 0, 1) := by decide +kernel
theorem dX2_endCommand_25 : decode cX2_endCommand 25 = .ok (.new 67, 3) := by decide +kernel
theorem dX2_endCommand_28 : decode cX2_endCommand 28 = .ok (.dup, 1) := by decide +kernel
theorem dX2_endCommand_29 : decode cX2_endCommand 29 = .ok (.iconst 3, 1) := by decide +kernel
theorem dX2_endCommand_30 : decode cX2_endCommand 30 = .ok (.iconst 0, 1) := by decide +kernel
theorem dX2_endCommand_31 : decode cX2_endCommand 31 = .ok (.iconst 0, 1) := by decide +kernel
theorem dX2_endCommand_32 : decode cX2_endCommand 32 = .ok (.iload_n 1, 1) := by decide +kernel
theorem dX2_endCommand_33 : decode cX2_endCommand 33 = .ok (.invokespecial 69, 3) := by decide +kernel
theorem dX2_endCommand_36 : decode cX2_endCommand 36 = .ok (.invokevirtual 72, 3) := by decide +kernel
theorem dX2_endCommand_39 : decode cX2_endCommand 39 = .ok (.pop, 1) := by decide +kernel
theorem dX2_endCommand_40 : decode cX2_endCommand 40 = .ok (.goto 30, 3) := by decide +kernel
theorem dX2_endCommand_43 : decode cX2_endCommand 43 = .ok (.aload_n 0, 1) := by decide +kernel
theorem dX2_endCommand_44 : decode cX2_endCommand 44 = .ok (.new 67, 3) := by decide +kernel
theorem dX2_endCommand_47 : decode cX2_endCommand 47 = .ok (.dup, 1) := by decide +kernel
theorem dX2_endCommand_48 : decode cX2_endCommand 48 = .ok (.aload_n 0, 1) := by decide +kernel
theorem dX2_endCommand_49 : decode cX2_endCommand 49 = .ok (.getfield 55, 3) := by decide +kernel
theorem dX2_endCommand_52 : decode cX2_endCommand 52 = .ok (.aload_n 0, 1) := by decide +kernel
theorem dX2_endCommand_53 : decode cX2_endCommand 53 = .ok (.getfield 58, 3) := by decide +kernel
theorem dX2_endCommand_56 : decode cX2_endCommand 56 = .ok (.invokestatic 76, 3) := by decide +kernel
theorem dX2_endCommand_59 : decode cX2_endCommand 59 = .ok (.iload_n 1, 1) := by decide +kernel
theorem dX2_endCommand_60 : decode cX2_endCommand 60 = .ok (.invokestatic 76, 3) := by decide +kernel
theorem dX2_endCommand_63 : decode cX2_endCommand 63 = .ok (.iconst 0, 1) := by decide +kernel
theorem dX2_endCommand_64 : decode cX2_endCommand 64 = .ok (.invokespecial 69, 3) := by decide +kernel
theorem dX2_endCommand_67 : decode cX2_endCommand 67 = .ok (.invokevirtual 80, 3) := by decide +kernel
theorem dX2_endCommand_70 : decode cX2_endCommand 70 = .ok (.return_, 1) := by decide +kernel
theorem dX2_signed_0 : decode cX2_signed 0 = .ok (.iload_n 0, 1) := by decide +kernel
theorem dX2_signed_1 : decode cX2_signed 1 = .ok (.bipush 127, 2) := by decide +kernel
theorem dX2_signed_3 : decode cX2_signed 3 = .ok (.if_icmp .le 13, 3) := by decide +kernel
theorem dX2_signed_6 : decode cX2_signed 6 = .ok (.iload_n 0, 1) := by decide +kernel
theorem dX2_signed_7 : decode cX2_signed 7 = .ok (.sipush 255, 3) := by decide +kernel
theorem dX2_signed_10 : decode cX2_signed 10 = .ok (.isub, 1) := by decide +kernel
theorem dX2_signed_11 : decode cX2_signed 11 = .ok (.iconst 1, 1) := by decide +kernel
theorem dX2_signed_12 : decode cX2_signed 12 = .ok (.isub, 1) := by decide +kernel
theorem dX2_signed_13 : decode cX2_signed 13 = .ok (.goto 4, 3) := by decide +kernel
theorem dX2_signed_16 : decode cX2_signed 16 = .ok (.iload_n 0, 1) := by decide +kernel
theorem dX2_signed_17 : decode cX2_signed 17 = .ok (.ireturn, 1) := by decide +kernel
theorem dX2_queueMotion_0 : decode cX2_queueMotion 0 = .ok (.aload_n 0, 1) := by decide +kernel
theorem dX2_queueMotion_1 : decode cX2_queueMotion 1 = .ok (.aload_n 1, 1) := by decide +kernel
theorem dX2_queueMotion_2 : decode cX2_queueMotion 2 = .ok (.invokevirtual 72, 3) := by decide +kernel
theorem dX2_queueMotion_5 : decode cX2_queueMotion 5 = .ok (.ifCond .eq 8, 3) := by decide +kernel
theorem dX2_queueMotion_8 : decode cX2_queueMotion 8 = .ok (.aload_n 0, 1) := by decide +kernel
theorem dX2_queueMotion_9 : decode cX2_queueMotion 9 = .ok (.aload_n 1, 1) := by decide +kernel
theorem dX2_queueMotion_10 : decode cX2_queueMotion 10 = .ok (.putfield 84, 3) := by decide +kernel
theorem dX2_queueMotion_13 : decode cX2_queueMotion 13 = .ok (.return_, 1) := by decide +kernel
theorem dX2_repeatLatest_0 : decode cX2_repeatLatest 0 = .ok (.iload_n 1, 1) := by decide +kernel
theorem dX2_repeatLatest_1 : decode cX2_repeatLatest 1 = .ok (.iconst 1, 1) := by decide +kernel
theorem dX2_repeatLatest_2 : decode cX2_repeatLatest 2 = .ok (.if_icmp .lt 16, 3) := by decide +kernel
theorem dX2_repeatLatest_5 : decode cX2_repeatLatest 5 = .ok (.iload_n 1, 1) := by decide +kernel
theorem dX2_repeatLatest_6 : decode cX2_repeatLatest 6 = .ok (.bipush 9, 2) := by decide +kernel
theorem dX2_repeatLatest_8 : decode cX2_repeatLatest 8 = .ok (.if_icmp .gt 10, 3) := by decide +kernel
theorem dX2_repeatLatest_11 : decode cX2_repeatLatest 11 = .ok (.aload_n 0, 1) := by decide +kernel
theorem dX2_repeatLatest_12 : decode cX2_repeatLatest 12 = .ok (.getfield 84, 3) := by decide +kernel
theorem dX2_repeatLatest_15 : decode cX2_repeatLatest 15 = .ok (.ifnonnull 14, 3) := by decide +kernel
theorem dX2_repeatLatest_18 : decode cX2_repeatLatest 18 = .ok (.aload_n 0, 1) := by decide +kernel
theorem dX2_repeatLatest_19 : decode cX2_repeatLatest 19 = .ok (.dup, 1) := by decide +kernel
theorem dX2_repeatLatest_20 : decode cX2_repeatLatest 20 = .ok (.getfield 45, 3) := by decide +kernel
theorem dX2_repeatLatest_23 : decode cX2_repeatLatest 23 = .ok (.iconst 1, 1) := by decide +kernel
theorem dX2_repeatLatest_24 : decode cX2_repeatLatest 24 = .ok (.iadd, 1) := by decide +kernel
theorem dX2_repeatLatest_25 : decode cX2_repeatLatest 25 = .ok (.putfield 45, 3) := by decide +kernel
theorem dX2_repeatLatest_28 : decode cX2_repeatLatest 28 = .ok (.return_, 1) := by decide +kernel
theorem dX2_repeatLatest_29 : decode cX2_repeatLatest 29 = .ok (.iconst 0, 1) := by decide +kernel
theorem dX2_repeatLatest_30 : decode cX2_repeatLatest 30 = .ok (.istore_n 2, 1) := by decide +kernel
theorem dX2_repeatLatest_31 : decode cX2_repeatLatest 31 = .ok (.iload_n 2, 1) := by decide +kernel
theorem dX2_repeatLatest_32 : decode cX2_repeatLatest 32 = .ok (.iload_n 1, 1) := by decide +kernel
theorem dX2_repeatLatest_33 : decode cX2_repeatLatest 33 = .ok (.if_icmp .ge 18, 3) := by decide +kernel
theorem dX2_repeatLatest_36 : decode cX2_repeatLatest 36 = .ok (.aload_n 0, 1) := by decide +kernel
theorem dX2_repeatLatest_37 : decode cX2_repeatLatest 37 = .ok (.aload_n 0, 1) := by decide +kernel
theorem dX2_repeatLatest_38 : decode cX2_repeatLatest 38 = .ok (.getfield 84, 3) := by decide +kernel
theorem dX2_repeatLatest_41 : decode cX2_repeatLatest 41 = .ok (.invokevirtual 72, 3) := by decide +kernel
theorem dX2_repeatLatest_44 : decode cX2_repeatLatest 44 = .ok (.pop, 1) := by decide +kernel
theorem dX2_repeatLatest_45 : decode cX2_repeatLatest 45 = .ok (.iinc 2 1, 3) := by decide +kernel
theorem dX2_repeatLatest_48 : decode cX2_repeatLatest 48 = .ok (.goto (-17), 3) := by decide +kernel
theorem dX2_repeatLatest_51 : decode cX2_repeatLatest 51 = .ok (.return_, 1) := by decide +kernel
theorem dX2_queueIfRight_0 : decode cX2_queueIfRight 0 = .ok (.aload_n 0, 1) := by decide +kernel
theorem dX2_queueIfRight_1 : decode cX2_queueIfRight 1 = .ok (.aload_n 1, 1) := by decide +kernel
theorem dX2_queueIfRight_2 : decode cX2_queueIfRight 2 = .ok (.invokevirtual 88, 3) := by decide +kernel
theorem dX2_queueIfRight_5 : decode cX2_queueIfRight 5 = .ok (.ifCond .ne 15, 3) := by decide +kernel
theorem dX2_queueIfRight_8 : decode cX2_queueIfRight 8 = .ok (.aload_n 0, 1) := by decide +kernel
theorem dX2_queueIfRight_9 : decode cX2_queueIfRight 9 = .ok (.dup, 1) := by decide +kernel
theorem dX2_queueIfRight_10 : decode cX2_queueIfRight 10 = .ok (.getfield 45, 3) := by decide +kernel
theorem dX2_queueIfRight_13 : decode cX2_queueIfRight 13 = .ok (.iconst 1, 1) := by decide +kernel
theorem dX2_queueIfRight_14 : decode cX2_queueIfRight 14 = .ok (.iadd, 1) := by decide +kernel
theorem dX2_queueIfRight_15 : decode cX2_queueIfRight 15 = .ok (.putfield 45, 3) := by decide +kernel
theorem dX2_queueIfRight_18 : decode cX2_queueIfRight 18 = .ok (.iconst 0, 1) := by decide +kernel
theorem dX2_queueIfRight_19 : decode cX2_queueIfRight 19 = .ok (.ireturn, 1) := by decide +kernel
theorem dX2_queueIfRight_20 : decode cX2_queueIfRight 20 = .ok (.aload_n 1, 1) := by decide +kernel
theorem dX2_queueIfRight_21 : decode cX2_queueIfRight 21 = .ok (.invokevirtual 91, 3) := by decide +kernel
theorem dX2_queueIfRight_24 : decode cX2_queueIfRight 24 = .ok (.ifCond .eq 8, 3) := by decide +kernel
theorem dX2_queueIfRight_27 : decode cX2_queueIfRight 27 = .ok (.aload_n 0, 1) := by decide +kernel
theorem dX2_queueIfRight_28 : decode cX2_queueIfRight 28 = .ok (.aload_n 1, 1) := by decide +kernel
theorem dX2_queueIfRight_29 : decode cX2_queueIfRight 29 = .ok (.invokevirtual 95, 3) := by decide +kernel
theorem dX2_queueIfRight_32 : decode cX2_queueIfRight 32 = .ok (.aload_n 0, 1) := by decide +kernel
theorem dX2_queueIfRight_33 : decode cX2_queueIfRight 33 = .ok (.getfield 10, 3) := by decide +kernel
theorem dX2_queueIfRight_36 : decode cX2_queueIfRight 36 = .ok (.aload_n 1, 1) := by decide +kernel
theorem dX2_queueIfRight_37 : decode cX2_queueIfRight 37 = .ok (.invokevirtual 98, 3) := by decide +kernel
theorem dX2_queueIfRight_40 : decode cX2_queueIfRight 40 = .ok (.pop, 1) := by decide +kernel
theorem dX2_queueIfRight_41 : decode cX2_queueIfRight 41 = .ok (.aload_n 0, 1) := by decide +kernel
theorem dX2_queueIfRight_42 : decode cX2_queueIfRight 42 = .ok (.dup, 1) := by decide +kernel
theorem dX2_queueIfRight_43 : decode cX2_queueIfRight 43 = .ok (.getfield 102, 3) := by decide +kernel
theorem dX2_queueIfRight_46 : decode cX2_queueIfRight 46 = .ok (.aload_n 1, 1) := by decide +kernel
theorem dX2_queueIfRight_47 : decode cX2_queueIfRight 47 = .ok (.getfield 105, 3) := by decide +kernel
theorem dX2_queueIfRight_50 : decode cX2_queueIfRight 50 = .ok (.iadd, 1) := by decide +kernel
theorem dX2_queueIfRight_51 : decode cX2_queueIfRight 51 = .ok (.putfield 102, 3) := by decide +kernel
theorem dX2_queueIfRight_54 : decode cX2_queueIfRight 54 = .ok (.aload_n 0, 1) := by decide +kernel
theorem dX2_queueIfRight_55 : decode cX2_queueIfRight 55 = .ok (.dup, 1) := by decide +kernel
theorem dX2_queueIfRight_56 : decode cX2_queueIfRight 56 = .ok (.getfield 108, 3) := by decide +kernel
theorem dX2_queueIfRight_59 : decode cX2_queueIfRight 59 = .ok (.aload_n 1, 1) := by decide +kernel
theorem dX2_queueIfRight_60 : decode cX2_queueIfRight 60 = .ok (.getfield 111, 3) := by decide +kernel
theorem dX2_queueIfRight_63 : decode cX2_queueIfRight 63 = .ok (.iadd, 1) := by decide +kernel
theorem dX2_queueIfRight_64 : decode cX2_queueIfRight 64 = .ok (.putfield 108, 3) := by decide +kernel
theorem dX2_queueIfRight_67 : decode cX2_queueIfRight 67 = .ok (.iconst 1, 1) := by decide +kernel
theorem dX2_queueIfRight_68 : decode cX2_queueIfRight 68 = .ok (.ireturn, 1) := by decide +kernel
theorem dX2_isRight_0 : decode cX2_isRight 0 = .ok (.aload_n 1, 1) := by decide +kernel
theorem dX2_isRight_1 : decode cX2_isRight 1 = .ok (.getfield 114, 3) := by decide +kernel
theorem dX2_isRight_4 : decode cX2_isRight 4 = .ok (.iconst 3, 1) := by decide +kernel
theorem dX2_isRight_5 : decode cX2_isRight 5 = .ok (.if_icmp .ne 11, 3) := by decide +kernel
theorem dX2_isRight_8 : decode cX2_isRight 8 = .ok (.aload_n 1, 1) := by decide +kernel
theorem dX2_isRight_9 : decode cX2_isRight 9 = .ok (.getfield 117, 3) := by decide +kernel
theorem dX2_isRight_12 : decode cX2_isRight 12 = .ok (.invokestatic 120, 3) := by decide +kernel
theorem dX2_isRight_15 : decode cX2_isRight 15 = .ok (.ireturn, 1) := by decide +kernel
theorem dX2_isRight_16 : decode cX2_isRight 16 = .ok (.aload_n 1, 1) := by decide +kernel
theorem dX2_isRight_17 : decode cX2_isRight 17 = .ok (.invokevirtual 124, 3) := by decide +kernel
theorem dX2_isRight_20 : decode cX2_isRight 20 = .ok (.ifCond .le 31, 3) := by decide +kernel
theorem dX2_isRight_23 : decode cX2_isRight 23 = .ok (.aload_n 0, 1) := by decide +kernel
theorem dX2_isRight_24 : decode cX2_isRight 24 = .ok (.getfield 102, 3) := by decide +kernel
theorem dX2_isRight_27 : decode cX2_isRight 27 = .ok (.aload_n 1, 1) := by decide +kernel
theorem dX2_isRight_28 : decode cX2_isRight 28 = .ok (.getfield 105, 3) := by decide +kernel
theorem dX2_isRight_31 : decode cX2_isRight 31 = .ok (.iadd, 1) := by decide +kernel
theorem dX2_isRight_32 : decode cX2_isRight 32 = .ok (.aload_n 0, 1) := by decide +kernel
theorem dX2_isRight_33 : decode cX2_isRight 33 = .ok (.getfield 108, 3) := by decide +kernel
theorem dX2_isRight_36 : decode cX2_isRight 36 = .ok (.aload_n 1, 1) := by decide +kernel
theorem dX2_isRight_37 : decode cX2_isRight 37 = .ok (.getfield 111, 3) := by decide +kernel
theorem dX2_isRight_40 : decode cX2_isRight 40 = .ok (.iadd, 1) := by decide +kernel
theorem dX2_isRight_41 : decode cX2_isRight 41 = .ok (.invokestatic 127, 3) := by decide +kernel
theorem dX2_isRight_44 : decode cX2_isRight 44 = .ok (.ifCond .eq 7, 3) := by decide +kernel
theorem dX2_isRight_47 : decode cX2_isRight 47 = .ok (.iconst 1, 1) := by decide +kernel
theorem dX2_isRight_48 : decode cX2_isRight 48 = .ok (.goto 4, 3) := by decide +kernel
theorem dX2_isRight_51 : decode cX2_isRight 51 = .ok (.iconst 0, 1) := by decide +kernel
theorem dX2_isRight_52 : decode cX2_isRight 52 = .ok (.ireturn, 1) := by decide +kernel
theorem dX2_planLine_0 : decode cX2_planLine 0 = .ok (.aload_n 1, 1) := by decide +kernel
theorem dX2_planLine_1 : decode cX2_planLine 1 = .ok (.invokevirtual 124, 3) := by decide +kernel
theorem dX2_planLine_4 : decode cX2_planLine 4 = .ok (.istore_n 2, 1) := by decide +kernel
theorem dX2_planLine_5 : decode cX2_planLine 5 = .ok (.iconst 0, 1) := by decide +kernel
theorem dX2_planLine_6 : decode cX2_planLine 6 = .ok (.istore_n 3, 1) := by decide +kernel
theorem dX2_planLine_7 : decode cX2_planLine 7 = .ok (.iload_n 3, 1) := by decide +kernel
theorem dX2_planLine_8 : decode cX2_planLine 8 = .ok (.iload_n 2, 1) := by decide +kernel
theorem dX2_planLine_9 : decode cX2_planLine 9 = .ok (.if_icmp .gt 36, 3) := by decide +kernel
theorem dX2_planLine_12 : decode cX2_planLine 12 = .ok (.aload_n 0, 1) := by decide +kernel
theorem dX2_planLine_13 : decode cX2_planLine 13 = .ok (.getfield 23, 3) := by decide +kernel
theorem dX2_planLine_16 : decode cX2_planLine 16 = .ok (.aload_n 0, 1) := by decide +kernel
theorem dX2_planLine_17 : decode cX2_planLine 17 = .ok (.getfield 102, 3) := by decide +kernel
theorem dX2_planLine_20 : decode cX2_planLine 20 = .ok (.aload_n 1, 1) := by decide +kernel
theorem dX2_planLine_21 : decode cX2_planLine 21 = .ok (.iload_n 3, 1) := by decide +kernel
theorem dX2_planLine_22 : decode cX2_planLine 22 = .ok (.invokevirtual 131, 3) := by decide +kernel
theorem dX2_planLine_25 : decode cX2_planLine 25 = .ok (.iadd, 1) := by decide +kernel
theorem dX2_planLine_26 : decode cX2_planLine 26 = .ok (.aload_n 0, 1) := by decide +kernel
theorem dX2_planLine_27 : decode cX2_planLine 27 = .ok (.getfield 108, 3) := by decide +kernel
theorem dX2_planLine_30 : decode cX2_planLine 30 = .ok (.aload_n 1, 1) := by decide +kernel
theorem dX2_planLine_31 : decode cX2_planLine 31 = .ok (.iload_n 3, 1) := by decide +kernel
theorem dX2_planLine_32 : decode cX2_planLine 32 = .ok (.invokevirtual 134, 3) := by decide +kernel
theorem dX2_planLine_35 : decode cX2_planLine 35 = .ok (.iadd, 1) := by decide +kernel
theorem dX2_planLine_36 : decode cX2_planLine 36 = .ok (.invokevirtual 137, 3) := by decide +kernel
theorem dX2_planLine_39 : decode cX2_planLine 39 = .ok (.iinc 3 1, 3) := by decide +kernel
theorem dX2_planLine_42 : decode cX2_planLine 42 = .ok (.goto (-35), 3) := by decide +kernel
theorem dX2_planLine_45 : decode cX2_planLine 45 = .ok (.return_, 1) := by decide +kernel
theorem dX2_tick_0 : decode cX2_tick 0 = .ok (.iload_n 1, 1) := by decide +kernel
theorem dX2_tick_1 : decode cX2_tick 1 = .ok (.iconst 1, 1) := by decide +kernel
theorem dX2_tick_2 : decode cX2_tick 2 = .ok (.if_icmp .lt 10, 3) := by decide +kernel
theorem dX2_tick_5 : decode cX2_tick 5 = .ok (.iload_n 1, 1) := by decide +kernel
theorem dX2_tick_6 : decode cX2_tick 6 = .ok (.sipush 1000, 3) := by decide +kernel
theorem dX2_tick_9 : decode cX2_tick 9 = .ok (.if_icmp .le 13, 3) := by decide +kernel
theorem dX2_tick_12 : decode cX2_tick 12 = .ok (.new 30, 3) := by decide +kernel
theorem dX2_tick_15 : decode cX2_tick 15 = .ok (.dup, 1) := by decide +kernel
theorem dX2_tick_16 : decode cX2_tick 16 = .ok (.ldc 141, 2) := by decide +kernel
theorem dX2_tick_18 : decode cX2_tick 18 = .ok (.invokespecial 34, 3) := by decide +kernel
theorem dX2_tick_21 : decode cX2_tick 21 = .ok (.athrow, 1) := by decide +kernel
theorem dX2_tick_22 : decode cX2_tick 22 = .ok (.aload_n 0, 1) := by decide +kernel
theorem dX2_tick_23 : decode cX2_tick 23 = .ok (.getfield 143, 3) := by decide +kernel
theorem dX2_tick_26 : decode cX2_tick 26 = .ok (.aload_n 0, 1) := by decide +kernel
theorem dX2_tick_27 : decode cX2_tick 27 = .ok (.getfield 146, 3) := by decide +kernel
theorem dX2_tick_30 : decode cX2_tick 30 = .ok (.iadd, 1) := by decide +kernel
theorem dX2_tick_31 : decode cX2_tick 31 = .ok (.istore_n 2, 1) := by decide +kernel
theorem dX2_tick_32 : decode cX2_tick 32 = .ok (.iconst 1, 1) := by decide +kernel
theorem dX2_tick_33 : decode cX2_tick 33 = .ok (.istore_n 3, 1) := by decide +kernel
theorem dX2_tick_34 : decode cX2_tick 34 = .ok (.iconst 0, 1) := by decide +kernel
theorem dX2_tick_35 : decode cX2_tick 35 = .ok (.istore 4, 2) := by decide +kernel
theorem dX2_tick_37 : decode cX2_tick 37 = .ok (.iload 4, 2) := by decide +kernel
theorem dX2_tick_39 : decode cX2_tick 39 = .ok (.iload_n 1, 1) := by decide +kernel
theorem dX2_tick_40 : decode cX2_tick 40 = .ok (.if_icmp .ge 18, 3) := by decide +kernel
theorem dX2_tick_43 : decode cX2_tick 43 = .ok (.iload_n 3, 1) := by decide +kernel
theorem dX2_tick_44 : decode cX2_tick 44 = .ok (.ifCond .eq 14, 3) := by decide +kernel
theorem dX2_tick_47 : decode cX2_tick 47 = .ok (.aload_n 0, 1) := by decide +kernel
theorem dX2_tick_48 : decode cX2_tick 48 = .ok (.invokevirtual 149, 3) := by decide +kernel
theorem dX2_tick_51 : decode cX2_tick 51 = .ok (.istore_n 3, 1) := by decide +kernel
theorem dX2_tick_52 : decode cX2_tick 52 = .ok (.iinc 4 1, 3) := by decide +kernel
theorem dX2_tick_55 : decode cX2_tick 55 = .ok (.goto (-18), 3) := by decide +kernel
theorem dX2_tick_58 : decode cX2_tick 58 = .ok (.aload_n 0, 1) := by decide +kernel
theorem dX2_tick_59 : decode cX2_tick 59 = .ok (.getfield 143, 3) := by decide +kernel
theorem dX2_tick_62 : decode cX2_tick 62 = .ok (.aload_n 0, 1) := by decide +kernel
theorem dX2_tick_63 : decode cX2_tick 63 = .ok (.getfield 146, 3) := by decide +kernel
theorem dX2_tick_66 : decode cX2_tick 66 = .ok (.iadd, 1) := by decide +kernel
theorem dX2_tick_67 : decode cX2_tick 67 = .ok (.iload_n 2, 1) := by decide +kernel
theorem dX2_tick_68 : decode cX2_tick 68 = .ok (.isub, 1) := by decide +kernel
theorem dX2_tick_69 : decode cX2_tick 69 = .ok (.ireturn, 1) := by decide +kernel
theorem dX2_cut_0 : decode cX2_cut 0 = .ok (.aload_n 0, 1) := by decide +kernel
theorem dX2_cut_1 : decode cX2_cut 1 = .ok (.getfield 152, 3) := by decide +kernel
theorem dX2_cut_4 : decode cX2_cut 4 = .ok (.bipush 10, 2) := by decide +kernel
theorem dX2_cut_6 : decode cX2_cut 6 = .ok (.irem, 1) := by decide +kernel
theorem dX2_cut_7 : decode cX2_cut 7 = .ok (.istore_n 1, 1) := by decide +kernel
theorem dX2_cut_8 : decode cX2_cut 8 = .ok (.aload_n 0, 1) := by decide +kernel
theorem dX2_cut_9 : decode cX2_cut 9 = .ok (.dup, 1) := by decide +kernel
theorem dX2_cut_10 : decode cX2_cut 10 = .ok (.getfield 152, 3) := by decide +kernel
theorem dX2_cut_13 : decode cX2_cut 13 = .ok (.iload_n 1, 1) := by decide +kernel
theorem dX2_cut_14 : decode cX2_cut 14 = .ok (.isub, 1) := by decide +kernel
theorem dX2_cut_15 : decode cX2_cut 15 = .ok (.putfield 152, 3) := by decide +kernel
theorem dX2_cut_18 : decode cX2_cut 18 = .ok (.aload_n 0, 1) := by decide +kernel
theorem dX2_cut_19 : decode cX2_cut 19 = .ok (.iconst 0, 1) := by decide +kernel
theorem dX2_cut_20 : decode cX2_cut 20 = .ok (.putfield 155, 3) := by decide +kernel
theorem dX2_cut_23 : decode cX2_cut 23 = .ok (.aload_n 0, 1) := by decide +kernel
theorem dX2_cut_24 : decode cX2_cut 24 = .ok (.iconst 0, 1) := by decide +kernel
theorem dX2_cut_25 : decode cX2_cut 25 = .ok (.putfield 158, 3) := by decide +kernel
theorem dX2_cut_28 : decode cX2_cut 28 = .ok (.aload_n 0, 1) := by decide +kernel
theorem dX2_cut_29 : decode cX2_cut 29 = .ok (.iconst 0, 1) := by decide +kernel
theorem dX2_cut_30 : decode cX2_cut 30 = .ok (.putfield 49, 3) := by decide +kernel
theorem dX2_cut_33 : decode cX2_cut 33 = .ok (.iload_n 1, 1) := by decide +kernel
theorem dX2_cut_34 : decode cX2_cut 34 = .ok (.ireturn, 1) := by decide +kernel
theorem dX2_refill_0 : decode cX2_refill 0 = .ok (.iload_n 1, 1) := by decide +kernel
theorem dX2_refill_1 : decode cX2_refill 1 = .ok (.invokestatic 120, 3) := by decide +kernel
theorem dX2_refill_4 : decode cX2_refill 4 = .ok (.ifCond .ne 13, 3) := by decide +kernel
theorem dX2_refill_7 : decode cX2_refill 7 = .ok (.new 162, 3) := by decide +kernel
theorem dX2_refill_10 : decode cX2_refill 10 = .ok (.dup, 1) := by decide +kernel
theorem dX2_refill_11 : decode cX2_refill 11 = .ok (.ldc 164, 2) := by decide +kernel
theorem dX2_refill_13 : decode cX2_refill 13 = .ok (.invokespecial 166, 3) := by decide +kernel
theorem dX2_refill_16 : decode cX2_refill 16 = .ok (.athrow, 1) := by decide +kernel
theorem dX2_refill_17 : decode cX2_refill 17 = .ok (.aload_n 0, 1) := by decide +kernel
theorem dX2_refill_18 : decode cX2_refill 18 = .ok (.iload_n 1, 1) := by decide +kernel
theorem dX2_refill_19 : decode cX2_refill 19 = .ok (.invokevirtual 167, 3) := by decide +kernel
theorem dX2_refill_22 : decode cX2_refill 22 = .ok (.istore_n 2, 1) := by decide +kernel
theorem dX2_refill_23 : decode cX2_refill 23 = .ok (.aload_n 0, 1) := by decide +kernel
theorem dX2_refill_24 : decode cX2_refill 24 = .ok (.iload_n 1, 1) := by decide +kernel
theorem dX2_refill_25 : decode cX2_refill 25 = .ok (.sipush 500, 3) := by decide +kernel
theorem dX2_refill_28 : decode cX2_refill 28 = .ok (.invokevirtual 170, 3) := by decide +kernel
theorem dX2_refill_31 : decode cX2_refill 31 = .ok (.iload_n 2, 1) := by decide +kernel
theorem dX2_refill_32 : decode cX2_refill 32 = .ok (.ireturn, 1) := by decide +kernel
theorem dX2_pour_0 : decode cX2_pour 0 = .ok (.iload_n 1, 1) := by decide +kernel
theorem dX2_pour_1 : decode cX2_pour 1 = .ok (.invokestatic 120, 3) := by decide +kernel
theorem dX2_pour_4 : decode cX2_pour 4 = .ok (.ifCond .ne 13, 3) := by decide +kernel
theorem dX2_pour_7 : decode cX2_pour 7 = .ok (.new 162, 3) := by decide +kernel
theorem dX2_pour_10 : decode cX2_pour 10 = .ok (.dup, 1) := by decide +kernel
theorem dX2_pour_11 : decode cX2_pour 11 = .ok (.ldc 164, 2) := by decide +kernel
theorem dX2_pour_13 : decode cX2_pour 13 = .ok (.invokespecial 166, 3) := by decide +kernel
theorem dX2_pour_16 : decode cX2_pour 16 = .ok (.athrow, 1) := by decide +kernel
theorem dX2_pour_17 : decode cX2_pour 17 = .ok (.iload_n 2, 1) := by decide +kernel
theorem dX2_pour_18 : decode cX2_pour 18 = .ok (.iconst 1, 1) := by decide +kernel
theorem dX2_pour_19 : decode cX2_pour 19 = .ok (.if_icmp .lt 10, 3) := by decide +kernel
theorem dX2_pour_22 : decode cX2_pour 22 = .ok (.iload_n 2, 1) := by decide +kernel
theorem dX2_pour_23 : decode cX2_pour 23 = .ok (.sipush 500, 3) := by decide +kernel
theorem dX2_pour_26 : decode cX2_pour 26 = .ok (.if_icmp .le 13, 3) := by decide +kernel
theorem dX2_pour_29 : decode cX2_pour 29 = .ok (.new 30, 3) := by decide +kernel
theorem dX2_pour_32 : decode cX2_pour 32 = .ok (.dup, 1) := by decide +kernel
theorem dX2_pour_33 : decode cX2_pour 33 = .ok (.ldc 173, 2) := by decide +kernel
theorem dX2_pour_35 : decode cX2_pour 35 = .ok (.invokespecial 34, 3) := by decide +kernel
theorem dX2_pour_38 : decode cX2_pour 38 = .ok (.athrow, 1) := by decide +kernel
theorem dX2_pour_39 : decode cX2_pour 39 = .ok (.iconst 0, 1) := by decide +kernel
theorem dX2_pour_40 : decode cX2_pour 40 = .ok (.aload_n 0, 1) := by decide +kernel
theorem dX2_pour_41 : decode cX2_pour 41 = .ok (.iload_n 1, 1) := by decide +kernel
theorem dX2_pour_42 : decode cX2_pour 42 = .ok (.invokevirtual 167, 3) := by decide +kernel
theorem dX2_pour_45 : decode cX2_pour 45 = .ok (.iload_n 2, 1) := by decide +kernel
theorem dX2_pour_46 : decode cX2_pour 46 = .ok (.isub, 1) := by decide +kernel
theorem dX2_pour_47 : decode cX2_pour 47 = .ok (.invokestatic 175, 3) := by decide +kernel
theorem dX2_pour_50 : decode cX2_pour 50 = .ok (.istore_n 3, 1) := by decide +kernel
theorem dX2_pour_51 : decode cX2_pour 51 = .ok (.aload_n 0, 1) := by decide +kernel
theorem dX2_pour_52 : decode cX2_pour 52 = .ok (.iload_n 1, 1) := by decide +kernel
theorem dX2_pour_53 : decode cX2_pour 53 = .ok (.iload_n 3, 1) := by decide +kernel
theorem dX2_pour_54 : decode cX2_pour 54 = .ok (.invokevirtual 170, 3) := by decide +kernel
theorem dX2_pour_57 : decode cX2_pour 57 = .ok (.iload_n 3, 1) := by decide +kernel
theorem dX2_pour_58 : decode cX2_pour 58 = .ok (.ireturn, 1) := by decide +kernel
theorem dX2_doTick_0 : decode cX2_doTick 0 = .ok (.aload_n 0, 1) := by decide +kernel
theorem dX2_doTick_1 : decode cX2_doTick 1 = .ok (.invokevirtual 181, 3) := by decide +kernel
theorem dX2_doTick_4 : decode cX2_doTick 4 = .ok (.astore_n 1, 1) := by decide +kernel
theorem dX2_doTick_5 : decode cX2_doTick 5 = .ok (.aload_n 1, 1) := by decide +kernel
theorem dX2_doTick_6 : decode cX2_doTick 6 = .ok (.ifnull 11, 3) := by decide +kernel
theorem dX2_doTick_9 : decode cX2_doTick 9 = .ok (.aload_n 0, 1) := by decide +kernel
theorem dX2_doTick_10 : decode cX2_doTick 10 = .ok (.aload_n 1, 1) := by decide +kernel
theorem dX2_doTick_11 : decode cX2_doTick 11 = .ok (.invokevirtual 185, 3) := by decide +kernel
theorem dX2_doTick_14 : decode cX2_doTick 14 = .ok (.ifCond .eq 5, 3) := by decide +kernel
theorem dX2_doTick_17 : decode cX2_doTick 17 = .ok (.iconst 0, 1) := by decide +kernel
theorem dX2_doTick_18 : decode cX2_doTick 18 = .ok (.ireturn, 1) := by decide +kernel
theorem dX2_doTick_19 : decode cX2_doTick 19 = .ok (.aload_n 0, 1) := by decide +kernel
theorem dX2_doTick_20 : decode cX2_doTick 20 = .ok (.getfield 158, 3) := by decide +kernel
theorem dX2_doTick_23 : decode cX2_doTick 23 = .ok (.aload_n 1, 1) := by decide +kernel
theorem dX2_doTick_24 : decode cX2_doTick 24 = .ok (.invokevirtual 91, 3) := by decide +kernel
theorem dX2_doTick_27 : decode cX2_doTick 27 = .ok (.if_icmp .eq 10, 3) := by decide +kernel
theorem dX2_doTick_30 : decode cX2_doTick 30 = .ok (.aload_n 0, 1) := by decide +kernel
theorem dX2_doTick_31 : decode cX2_doTick 31 = .ok (.invokevirtual 188, 3) := by decide +kernel
theorem dX2_doTick_34 : decode cX2_doTick 34 = .ok (.goto 24, 3) := by decide +kernel
theorem dX2_doTick_37 : decode cX2_doTick 37 = .ok (.aload_n 1, 1) := by decide +kernel
theorem dX2_doTick_38 : decode cX2_doTick 38 = .ok (.getfield 114, 3) := by decide +kernel
theorem dX2_doTick_41 : decode cX2_doTick 41 = .ok (.iconst 3, 1) := by decide +kernel
theorem dX2_doTick_42 : decode cX2_doTick 42 = .ok (.if_icmp .ne 11, 3) := by decide +kernel
theorem dX2_doTick_45 : decode cX2_doTick 45 = .ok (.aload_n 0, 1) := by decide +kernel
theorem dX2_doTick_46 : decode cX2_doTick 46 = .ok (.aload_n 1, 1) := by decide +kernel
theorem dX2_doTick_47 : decode cX2_doTick 47 = .ok (.invokevirtual 191, 3) := by decide +kernel
theorem dX2_doTick_50 : decode cX2_doTick 50 = .ok (.goto 8, 3) := by decide +kernel
theorem dX2_doTick_53 : decode cX2_doTick 53 = .ok (.aload_n 0, 1) := by decide +kernel
theorem dX2_doTick_54 : decode cX2_doTick 54 = .ok (.aload_n 1, 1) := by decide +kernel
theorem dX2_doTick_55 : decode cX2_doTick 55 = .ok (.invokevirtual 194, 3) := by decide +kernel
theorem dX2_doTick_58 : decode cX2_doTick 58 = .ok (.iconst 1, 1) := by decide +kernel
theorem dX2_doTick_59 : decode cX2_doTick 59 = .ok (.ireturn, 1) := by decide +kernel
theorem dX2_turnPen_0 : decode cX2_turnPen 0 = .ok (.aload_n 0, 1) := by decide +kernel
theorem dX2_turnPen_1 : decode cX2_turnPen 1 = .ok (.dup, 1) := by decide +kernel
theorem dX2_turnPen_2 : decode cX2_turnPen 2 = .ok (.getfield 155, 3) := by decide +kernel
theorem dX2_turnPen_5 : decode cX2_turnPen 5 = .ok (.iconst 1, 1) := by decide +kernel
theorem dX2_turnPen_6 : decode cX2_turnPen 6 = .ok (.iadd, 1) := by decide +kernel
theorem dX2_turnPen_7 : decode cX2_turnPen 7 = .ok (.putfield 155, 3) := by decide +kernel
theorem dX2_turnPen_10 : decode cX2_turnPen 10 = .ok (.aload_n 0, 1) := by decide +kernel
theorem dX2_turnPen_11 : decode cX2_turnPen 11 = .ok (.getfield 155, 3) := by decide +kernel
theorem dX2_turnPen_14 : decode cX2_turnPen 14 = .ok (.iconst 2, 1) := by decide +kernel
theorem dX2_turnPen_15 : decode cX2_turnPen 15 = .ok (.if_icmp .ge 4, 3) := by decide +kernel
theorem dX2_turnPen_18 : decode cX2_turnPen 18 = .ok (.return_, 1) := by decide +kernel
theorem dX2_turnPen_19 : decode cX2_turnPen 19 = .ok (.aload_n 0, 1) := by decide +kernel
theorem dX2_turnPen_20 : decode cX2_turnPen 20 = .ok (.iconst 0, 1) := by decide +kernel
theorem dX2_turnPen_21 : decode cX2_turnPen 21 = .ok (.putfield 155, 3) := by decide +kernel
theorem dX2_turnPen_24 : decode cX2_turnPen 24 = .ok (.aload_n 0, 1) := by decide +kernel
theorem dX2_turnPen_25 : decode cX2_turnPen 25 = .ok (.aload_n 0, 1) := by decide +kernel
theorem dX2_turnPen_26 : decode cX2_turnPen 26 = .ok (.getfield 158, 3) := by decide +kernel
theorem dX2_turnPen_29 : decode cX2_turnPen 29 = .ok (.ifCond .ne 7, 3) := by decide +kernel
theorem dX2_turnPen_32 : decode cX2_turnPen 32 = .ok (.iconst 1, 1) := by decide +kernel
theorem dX2_turnPen_33 : decode cX2_turnPen 33 = .ok (.goto 4, 3) := by decide +kernel
theorem dX2_turnPen_36 : decode cX2_turnPen 36 = .ok (.iconst 0, 1) := by decide +kernel
theorem dX2_turnPen_37 : decode cX2_turnPen 37 = .ok (.putfield 158, 3) := by decide +kernel
theorem dX2_turnPen_40 : decode cX2_turnPen 40 = .ok (.aload_n 0, 1) := by decide +kernel
theorem dX2_turnPen_41 : decode cX2_turnPen 41 = .ok (.getfield 158, 3) := by decide +kernel
theorem dX2_turnPen_44 : decode cX2_turnPen 44 = .ok (.ifCond .eq 7, 3) := by decide +kernel
theorem dX2_turnPen_47 : decode cX2_turnPen 47 = .ok (.aload_n 0, 1) := by decide +kernel
theorem dX2_turnPen_48 : decode cX2_turnPen 48 = .ok (.invokevirtual 197, 3) := by decide +kernel
theorem dX2_turnPen_51 : decode cX2_turnPen 51 = .ok (.return_, 1) := by decide +kernel
theorem dX2_changePen_0 : decode cX2_changePen 0 = .ok (.aload_n 0, 1) := by decide +kernel
theorem dX2_changePen_1 : decode cX2_changePen 1 = .ok (.dup, 1) := by decide +kernel
theorem dX2_changePen_2 : decode cX2_changePen 2 = .ok (.getfield 155, 3) := by decide +kernel
theorem dX2_changePen_5 : decode cX2_changePen 5 = .ok (.iconst 1, 1) := by decide +kernel
theorem dX2_changePen_6 : decode cX2_changePen 6 = .ok (.iadd, 1) := by decide +kernel
theorem dX2_changePen_7 : decode cX2_changePen 7 = .ok (.putfield 155, 3) := by decide +kernel
theorem dX2_changePen_10 : decode cX2_changePen 10 = .ok (.aload_n 0, 1) := by decide +kernel
theorem dX2_changePen_11 : decode cX2_changePen 11 = .ok (.getfield 155, 3) := by decide +kernel
theorem dX2_changePen_14 : decode cX2_changePen 14 = .ok (.iconst 3, 1) := by decide +kernel
theorem dX2_changePen_15 : decode cX2_changePen 15 = .ok (.if_icmp .ge 4, 3) := by decide +kernel
theorem dX2_changePen_18 : decode cX2_changePen 18 = .ok (.return_, 1) := by decide +kernel
theorem dX2_changePen_19 : decode cX2_changePen 19 = .ok (.aload_n 0, 1) := by decide +kernel
theorem dX2_changePen_20 : decode cX2_changePen 20 = .ok (.aload_n 1, 1) := by decide +kernel
theorem dX2_changePen_21 : decode cX2_changePen 21 = .ok (.getfield 117, 3) := by decide +kernel
theorem dX2_changePen_24 : decode cX2_changePen 24 = .ok (.putfield 200, 3) := by decide +kernel
theorem dX2_changePen_27 : decode cX2_changePen 27 = .ok (.aload_n 0, 1) := by decide +kernel
theorem dX2_changePen_28 : decode cX2_changePen 28 = .ok (.aload_n 1, 1) := by decide +kernel
theorem dX2_changePen_29 : decode cX2_changePen 29 = .ok (.invokevirtual 203, 3) := by decide +kernel
theorem dX2_changePen_32 : decode cX2_changePen 32 = .ok (.return_, 1) := by decide +kernel
theorem dX2_doStep_0 : decode cX2_doStep 0 = .ok (.aload_n 0, 1) := by decide +kernel
theorem dX2_doStep_1 : decode cX2_doStep 1 = .ok (.dup, 1) := by decide +kernel
theorem dX2_doStep_2 : decode cX2_doStep 2 = .ok (.getfield 152, 3) := by decide +kernel
theorem dX2_doStep_5 : decode cX2_doStep 5 = .ok (.iconst 1, 1) := by decide +kernel
theorem dX2_doStep_6 : decode cX2_doStep 6 = .ok (.iadd, 1) := by decide +kernel
theorem dX2_doStep_7 : decode cX2_doStep 7 = .ok (.putfield 152, 3) := by decide +kernel
theorem dX2_doStep_10 : decode cX2_doStep 10 = .ok (.aload_n 1, 1) := by decide +kernel
theorem dX2_doStep_11 : decode cX2_doStep 11 = .ok (.invokevirtual 91, 3) := by decide +kernel
theorem dX2_doStep_14 : decode cX2_doStep 14 = .ok (.ifCond .eq 38, 3) := by decide +kernel
theorem dX2_doStep_17 : decode cX2_doStep 17 = .ok (.aload_n 0, 1) := by decide +kernel
theorem dX2_doStep_18 : decode cX2_doStep 18 = .ok (.dup, 1) := by decide +kernel
theorem dX2_doStep_19 : decode cX2_doStep 19 = .ok (.getfield 146, 3) := by decide +kernel
theorem dX2_doStep_22 : decode cX2_doStep 22 = .ok (.iconst 1, 1) := by decide +kernel
theorem dX2_doStep_23 : decode cX2_doStep 23 = .ok (.iadd, 1) := by decide +kernel
theorem dX2_doStep_24 : decode cX2_doStep 24 = .ok (.putfield 146, 3) := by decide +kernel
theorem dX2_doStep_27 : decode cX2_doStep 27 = .ok (.aload_n 0, 1) := by decide +kernel
theorem dX2_doStep_28 : decode cX2_doStep 28 = .ok (.aload_n 0, 1) := by decide +kernel
theorem dX2_doStep_29 : decode cX2_doStep 29 = .ok (.getfield 200, 3) := by decide +kernel
theorem dX2_doStep_32 : decode cX2_doStep 32 = .ok (.aload_n 0, 1) := by decide +kernel
theorem dX2_doStep_33 : decode cX2_doStep 33 = .ok (.aload_n 0, 1) := by decide +kernel
theorem dX2_doStep_34 : decode cX2_doStep 34 = .ok (.getfield 200, 3) := by decide +kernel
theorem dX2_doStep_37 : decode cX2_doStep 37 = .ok (.invokevirtual 167, 3) := by decide +kernel
theorem dX2_doStep_40 : decode cX2_doStep 40 = .ok (.iconst 1, 1) := by decide +kernel
theorem dX2_doStep_41 : decode cX2_doStep 41 = .ok (.isub, 1) := by decide +kernel
theorem dX2_doStep_42 : decode cX2_doStep 42 = .ok (.invokevirtual 170, 3) := by decide +kernel
theorem dX2_doStep_45 : decode cX2_doStep 45 = .ok (.aload_n 0, 1) := by decide +kernel
theorem dX2_doStep_46 : decode cX2_doStep 46 = .ok (.invokevirtual 197, 3) := by decide +kernel
theorem dX2_doStep_49 : decode cX2_doStep 49 = .ok (.goto 13, 3) := by decide +kernel
theorem dX2_doStep_52 : decode cX2_doStep 52 = .ok (.aload_n 0, 1) := by decide +kernel
theorem dX2_doStep_53 : decode cX2_doStep 53 = .ok (.dup, 1) := by decide +kernel
theorem dX2_doStep_54 : decode cX2_doStep 54 = .ok (.getfield 143, 3) := by decide +kernel
theorem dX2_doStep_57 : decode cX2_doStep 57 = .ok (.iconst 1, 1) := by decide +kernel
theorem dX2_doStep_58 : decode cX2_doStep 58 = .ok (.iadd, 1) := by decide +kernel
theorem dX2_doStep_59 : decode cX2_doStep 59 = .ok (.putfield 143, 3) := by decide +kernel
theorem dX2_doStep_62 : decode cX2_doStep 62 = .ok (.aload_n 0, 1) := by decide +kernel
theorem dX2_doStep_63 : decode cX2_doStep 63 = .ok (.getfield 152, 3) := by decide +kernel
theorem dX2_doStep_66 : decode cX2_doStep 66 = .ok (.aload_n 1, 1) := by decide +kernel
theorem dX2_doStep_67 : decode cX2_doStep 67 = .ok (.invokevirtual 124, 3) := by decide +kernel
theorem dX2_doStep_70 : decode cX2_doStep 70 = .ok (.if_icmp .lt 8, 3) := by decide +kernel
theorem dX2_doStep_73 : decode cX2_doStep 73 = .ok (.aload_n 0, 1) := by decide +kernel
theorem dX2_doStep_74 : decode cX2_doStep 74 = .ok (.aload_n 1, 1) := by decide +kernel
theorem dX2_doStep_75 : decode cX2_doStep 75 = .ok (.invokevirtual 203, 3) := by decide +kernel
theorem dX2_doStep_78 : decode cX2_doStep 78 = .ok (.return_, 1) := by decide +kernel
theorem dX2_endFirstCommand_0 : decode cX2_endFirstCommand 0 = .ok (.aload_n 0, 1) := by decide +kernel
theorem dX2_endFirstCommand_1 : decode cX2_endFirstCommand 1 = .ok (.dup, 1) := by decide +kernel
theorem dX2_endFirstCommand_2 : decode cX2_endFirstCommand 2 = .ok (.getfield 206, 3) := by decide +kernel
theorem dX2_endFirstCommand_5 : decode cX2_endFirstCommand 5 = .ok (.aload_n 1, 1) := by decide +kernel
theorem dX2_endFirstCommand_6 : decode cX2_endFirstCommand 6 = .ok (.getfield 105, 3) := by decide +kernel
theorem dX2_endFirstCommand_9 : decode cX2_endFirstCommand 9 = .ok (.iadd, 1) := by decide +kernel
theorem dX2_endFirstCommand_10 : decode cX2_endFirstCommand 10 = .ok (.putfield 206, 3) := by decide +kernel
theorem dX2_endFirstCommand_13 : decode cX2_endFirstCommand 13 = .ok (.aload_n 0, 1) := by decide +kernel
theorem dX2_endFirstCommand_14 : decode cX2_endFirstCommand 14 = .ok (.dup, 1) := by decide +kernel
theorem dX2_endFirstCommand_15 : decode cX2_endFirstCommand 15 = .ok (.getfield 209, 3) := by decide +kernel
theorem dX2_endFirstCommand_18 : decode cX2_endFirstCommand 18 = .ok (.aload_n 1, 1) := by decide +kernel
theorem dX2_endFirstCommand_19 : decode cX2_endFirstCommand 19 = .ok (.getfield 111, 3) := by decide +kernel
theorem dX2_endFirstCommand_22 : decode cX2_endFirstCommand 22 = .ok (.iadd, 1) := by decide +kernel
theorem dX2_endFirstCommand_23 : decode cX2_endFirstCommand 23 = .ok (.putfield 209, 3) := by decide +kernel
theorem dX2_endFirstCommand_26 : decode cX2_endFirstCommand 26 = .ok (.aload_n 0, 1) := by decide +kernel
theorem dX2_endFirstCommand_27 : decode cX2_endFirstCommand 27 = .ok (.iconst 0, 1) := by decide +kernel
theorem dX2_endFirstCommand_28 : decode cX2_endFirstCommand 28 = .ok (.putfield 152, 3) := by decide +kernel
theorem dX2_endFirstCommand_31 : decode cX2_endFirstCommand 31 = .ok (.aload_n 0, 1) := by decide +kernel
theorem dX2_endFirstCommand_32 : decode cX2_endFirstCommand 32 = .ok (.iconst 0, 1) := by decide +kernel
theorem dX2_endFirstCommand_33 : decode cX2_endFirstCommand 33 = .ok (.putfield 155, 3) := by decide +kernel
theorem dX2_endFirstCommand_36 : decode cX2_endFirstCommand 36 = .ok (.aload_n 0, 1) := by decide +kernel
theorem dX2_endFirstCommand_37 : decode cX2_endFirstCommand 37 = .ok (.getfield 10, 3) := by decide +kernel
theorem dX2_endFirstCommand_40 : decode cX2_endFirstCommand 40 = .ok (.invokevirtual 212, 3) := by decide +kernel
theorem dX2_endFirstCommand_43 : decode cX2_endFirstCommand 43 = .ok (.ifCond .ne 12, 3) := by decide +kernel
theorem dX2_endFirstCommand_46 : decode cX2_endFirstCommand 46 = .ok (.aload_n 0, 1) := by decide +kernel
theorem dX2_endFirstCommand_47 : decode cX2_endFirstCommand 47 = .ok (.getfield 10, 3) := by decide +kernel
theorem dX2_endFirstCommand_50 : decode cX2_endFirstCommand 50 = .ok (.iconst 0, 1) := by decide +kernel
theorem dX2_endFirstCommand_51 : decode cX2_endFirstCommand 51 = .ok (.invokevirtual 215, 3) := by decide +kernel
theorem dX2_endFirstCommand_54 : decode cX2_endFirstCommand 54 = .ok (.pop, 1) := by decide +kernel
theorem dX2_endFirstCommand_55 : decode cX2_endFirstCommand 55 = .ok (.return_, 1) := by decide +kernel
theorem dX2_markHere_0 : decode cX2_markHere 0 = .ok (.aload_n 0, 1) := by decide +kernel
theorem dX2_markHere_1 : decode cX2_markHere 1 = .ok (.getfield 19, 3) := by decide +kernel
theorem dX2_markHere_4 : decode cX2_markHere 4 = .ok (.aload_n 0, 1) := by decide +kernel
theorem dX2_markHere_5 : decode cX2_markHere 5 = .ok (.invokevirtual 219, 3) := by decide +kernel
theorem dX2_markHere_8 : decode cX2_markHere 8 = .ok (.aload_n 0, 1) := by decide +kernel
theorem dX2_markHere_9 : decode cX2_markHere 9 = .ok (.invokevirtual 222, 3) := by decide +kernel
theorem dX2_markHere_12 : decode cX2_markHere 12 = .ok (.invokevirtual 137, 3) := by decide +kernel
theorem dX2_markHere_15 : decode cX2_markHere 15 = .ok (.return_, 1) := by decide +kernel
theorem dX2_at_0 : decode cX2_at 0 = .ok (.bipush 100, 2) := by decide +kernel
theorem dX2_at_2 : decode cX2_at 2 = .ok (.aload_n 0, 1) := by decide +kernel
theorem dX2_at_3 : decode cX2_at 3 = .ok (.invokevirtual 222, 3) := by decide +kernel
theorem dX2_at_6 : decode cX2_at 6 = .ok (.imul, 1) := by decide +kernel
theorem dX2_at_7 : decode cX2_at 7 = .ok (.aload_n 0, 1) := by decide +kernel
theorem dX2_at_8 : decode cX2_at 8 = .ok (.invokevirtual 219, 3) := by decide +kernel
theorem dX2_at_11 : decode cX2_at 11 = .ok (.iadd, 1) := by decide +kernel
theorem dX2_at_12 : decode cX2_at 12 = .ok (.ireturn, 1) := by decide +kernel
theorem dX2_isDown_0 : decode cX2_isDown 0 = .ok (.aload_n 0, 1) := by decide +kernel
theorem dX2_isDown_1 : decode cX2_isDown 1 = .ok (.getfield 158, 3) := by decide +kernel
theorem dX2_isDown_4 : decode cX2_isDown 4 = .ok (.ireturn, 1) := by decide +kernel
theorem dX2_pen_0 : decode cX2_pen 0 = .ok (.aload_n 0, 1) := by decide +kernel
theorem dX2_pen_1 : decode cX2_pen 1 = .ok (.getfield 200, 3) := by decide +kernel
theorem dX2_pen_4 : decode cX2_pen 4 = .ok (.ireturn, 1) := by decide +kernel
theorem dX2_ink_0 : decode cX2_ink 0 = .ok (.iload_n 1, 1) := by decide +kernel
theorem dX2_ink_1 : decode cX2_ink 1 = .ok (.invokestatic 120, 3) := by decide +kernel
theorem dX2_ink_4 : decode cX2_ink 4 = .ok (.ifCond .ne 13, 3) := by decide +kernel
theorem dX2_ink_7 : decode cX2_ink 7 = .ok (.new 162, 3) := by decide +kernel
theorem dX2_ink_10 : decode cX2_ink 10 = .ok (.dup, 1) := by decide +kernel
theorem dX2_ink_11 : decode cX2_ink 11 = .ok (.ldc 164, 2) := by decide +kernel
theorem dX2_ink_13 : decode cX2_ink 13 = .ok (.invokespecial 166, 3) := by decide +kernel
theorem dX2_ink_16 : decode cX2_ink 16 = .ok (.athrow, 1) := by decide +kernel
theorem dX2_ink_17 : decode cX2_ink 17 = .ok (.aload_n 0, 1) := by decide +kernel
theorem dX2_ink_18 : decode cX2_ink 18 = .ok (.iload_n 1, 1) := by decide +kernel
theorem dX2_ink_19 : decode cX2_ink 19 = .ok (.invokevirtual 167, 3) := by decide +kernel
theorem dX2_ink_22 : decode cX2_ink 22 = .ok (.ireturn, 1) := by decide +kernel
theorem dX2_isWaiting_0 : decode cX2_isWaiting 0 = .ok (.aload_n 0, 1) := by decide +kernel
theorem dX2_isWaiting_1 : decode cX2_isWaiting 1 = .ok (.invokevirtual 181, 3) := by decide +kernel
theorem dX2_isWaiting_4 : decode cX2_isWaiting 4 = .ok (.astore_n 1, 1) := by decide +kernel
theorem dX2_isWaiting_5 : decode cX2_isWaiting 5 = .ok (.aload_n 1, 1) := by decide +kernel
theorem dX2_isWaiting_6 : decode cX2_isWaiting 6 = .ok (.ifnull 15, 3) := by decide +kernel
theorem dX2_isWaiting_9 : decode cX2_isWaiting 9 = .ok (.aload_n 0, 1) := by decide +kernel
theorem dX2_isWaiting_10 : decode cX2_isWaiting 10 = .ok (.aload_n 1, 1) := by decide +kernel
theorem dX2_isWaiting_11 : decode cX2_isWaiting 11 = .ok (.invokevirtual 185, 3) := by decide +kernel
theorem dX2_isWaiting_14 : decode cX2_isWaiting 14 = .ok (.ifCond .eq 7, 3) := by decide +kernel
theorem dX2_isWaiting_17 : decode cX2_isWaiting 17 = .ok (.iconst 1, 1) := by decide +kernel
theorem dX2_isWaiting_18 : decode cX2_isWaiting 18 = .ok (.goto 4, 3) := by decide +kernel
theorem dX2_isWaiting_21 : decode cX2_isWaiting 21 = .ok (.iconst 0, 1) := by decide +kernel
theorem dX2_isWaiting_22 : decode cX2_isWaiting 22 = .ok (.ireturn, 1) := by decide +kernel
theorem dX2_timeLeft_0 : decode cX2_timeLeft 0 = .ok (.iconst 0, 1) := by decide +kernel
theorem dX2_timeLeft_1 : decode cX2_timeLeft 1 = .ok (.istore_n 1, 1) := by decide +kernel
theorem dX2_timeLeft_2 : decode cX2_timeLeft 2 = .ok (.aload_n 0, 1) := by decide +kernel
theorem dX2_timeLeft_3 : decode cX2_timeLeft 3 = .ok (.getfield 158, 3) := by decide +kernel
theorem dX2_timeLeft_6 : decode cX2_timeLeft 6 = .ok (.istore_n 2, 1) := by decide +kernel
theorem dX2_timeLeft_7 : decode cX2_timeLeft 7 = .ok (.iconst 0, 1) := by decide +kernel
theorem dX2_timeLeft_8 : decode cX2_timeLeft 8 = .ok (.istore_n 3, 1) := by decide +kernel
theorem dX2_timeLeft_9 : decode cX2_timeLeft 9 = .ok (.iload_n 3, 1) := by decide +kernel
theorem dX2_timeLeft_10 : decode cX2_timeLeft 10 = .ok (.aload_n 0, 1) := by decide +kernel
theorem dX2_timeLeft_11 : decode cX2_timeLeft 11 = .ok (.getfield 10, 3) := by decide +kernel
theorem dX2_timeLeft_14 : decode cX2_timeLeft 14 = .ok (.invokevirtual 37, 3) := by decide +kernel
theorem dX2_timeLeft_17 : decode cX2_timeLeft 17 = .ok (.if_icmp .ge 61, 3) := by decide +kernel
theorem dX2_timeLeft_20 : decode cX2_timeLeft 20 = .ok (.aload_n 0, 1) := by decide +kernel
theorem dX2_timeLeft_21 : decode cX2_timeLeft 21 = .ok (.getfield 10, 3) := by decide +kernel
theorem dX2_timeLeft_24 : decode cX2_timeLeft 24 = .ok (.iload_n 3, 1) := by decide +kernel
theorem dX2_timeLeft_25 : decode cX2_timeLeft 25 = .ok (.invokevirtual 225, 3) := by decide +kernel
theorem dX2_timeLeft_28 : decode cX2_timeLeft 28 = .ok (.checkcast 67, 3) := by decide +kernel
theorem dX2_timeLeft_31 : decode cX2_timeLeft 31 = .ok (.astore 4, 2) := by decide +kernel
theorem dX2_timeLeft_33 : decode cX2_timeLeft 33 = .ok (.iload_n 2, 1) := by decide +kernel
theorem dX2_timeLeft_34 : decode cX2_timeLeft 34 = .ok (.aload 4, 2) := by decide +kernel
theorem dX2_timeLeft_36 : decode cX2_timeLeft 36 = .ok (.invokevirtual 91, 3) := by decide +kernel
theorem dX2_timeLeft_39 : decode cX2_timeLeft 39 = .ok (.if_icmp .eq 6, 3) := by decide +kernel
theorem dX2_timeLeft_42 : decode cX2_timeLeft 42 = .ok (.iinc 1 2, 3) := by decide +kernel
theorem dX2_timeLeft_45 : decode cX2_timeLeft 45 = .ok (.iload_n 1, 1) := by decide +kernel
theorem dX2_timeLeft_46 : decode cX2_timeLeft 46 = .ok (.aload 4, 2) := by decide +kernel
theorem dX2_timeLeft_48 : decode cX2_timeLeft 48 = .ok (.getfield 114, 3) := by decide +kernel
theorem dX2_timeLeft_51 : decode cX2_timeLeft 51 = .ok (.iconst 3, 1) := by decide +kernel
theorem dX2_timeLeft_52 : decode cX2_timeLeft 52 = .ok (.if_icmp .ne 7, 3) := by decide +kernel
theorem dX2_timeLeft_55 : decode cX2_timeLeft 55 = .ok (.iconst 3, 1) := by decide +kernel
theorem dX2_timeLeft_56 : decode cX2_timeLeft 56 = .ok (.goto 8, 3) := by decide +kernel
theorem dX2_timeLeft_59 : decode cX2_timeLeft 59 = .ok (.aload 4, 2) := by decide +kernel
theorem dX2_timeLeft_61 : decode cX2_timeLeft 61 = .ok (.invokevirtual 124, 3) := by decide +kernel
theorem dX2_timeLeft_64 : decode cX2_timeLeft 64 = .ok (.iadd, 1) := by decide +kernel
theorem dX2_timeLeft_65 : decode cX2_timeLeft 65 = .ok (.istore_n 1, 1) := by decide +kernel
theorem dX2_timeLeft_66 : decode cX2_timeLeft 66 = .ok (.aload 4, 2) := by decide +kernel
theorem dX2_timeLeft_68 : decode cX2_timeLeft 68 = .ok (.invokevirtual 91, 3) := by decide +kernel
theorem dX2_timeLeft_71 : decode cX2_timeLeft 71 = .ok (.istore_n 2, 1) := by decide +kernel
theorem dX2_timeLeft_72 : decode cX2_timeLeft 72 = .ok (.iinc 3 1, 3) := by decide +kernel
theorem dX2_timeLeft_75 : decode cX2_timeLeft 75 = .ok (.goto (-66), 3) := by decide +kernel
theorem dX2_timeLeft_78 : decode cX2_timeLeft 78 = .ok (.iload_n 1, 1) := by decide +kernel
theorem dX2_timeLeft_79 : decode cX2_timeLeft 79 = .ok (.aload_n 0, 1) := by decide +kernel
theorem dX2_timeLeft_80 : decode cX2_timeLeft 80 = .ok (.getfield 152, 3) := by decide +kernel
theorem dX2_timeLeft_83 : decode cX2_timeLeft 83 = .ok (.isub, 1) := by decide +kernel
theorem dX2_timeLeft_84 : decode cX2_timeLeft 84 = .ok (.aload_n 0, 1) := by decide +kernel
theorem dX2_timeLeft_85 : decode cX2_timeLeft 85 = .ok (.getfield 155, 3) := by decide +kernel
theorem dX2_timeLeft_88 : decode cX2_timeLeft 88 = .ok (.isub, 1) := by decide +kernel
theorem dX2_timeLeft_89 : decode cX2_timeLeft 89 = .ok (.ireturn, 1) := by decide +kernel
theorem dX2_stepsUp_0 : decode cX2_stepsUp 0 = .ok (.aload_n 0, 1) := by decide +kernel
theorem dX2_stepsUp_1 : decode cX2_stepsUp 1 = .ok (.getfield 143, 3) := by decide +kernel
theorem dX2_stepsUp_4 : decode cX2_stepsUp 4 = .ok (.ireturn, 1) := by decide +kernel
theorem dX2_stepsDown_0 : decode cX2_stepsDown 0 = .ok (.aload_n 0, 1) := by decide +kernel
theorem dX2_stepsDown_1 : decode cX2_stepsDown 1 = .ok (.getfield 146, 3) := by decide +kernel
theorem dX2_stepsDown_4 : decode cX2_stepsDown 4 = .ok (.ireturn, 1) := by decide +kernel
theorem dX2_firstCommand_0 : decode cX2_firstCommand 0 = .ok (.aload_n 0, 1) := by decide +kernel
theorem dX2_firstCommand_1 : decode cX2_firstCommand 1 = .ok (.getfield 10, 3) := by decide +kernel
theorem dX2_firstCommand_4 : decode cX2_firstCommand 4 = .ok (.invokevirtual 212, 3) := by decide +kernel
theorem dX2_firstCommand_7 : decode cX2_firstCommand 7 = .ok (.ifCond .eq 7, 3) := by decide +kernel
theorem dX2_firstCommand_10 : decode cX2_firstCommand 10 = .ok (.aconst_null, 1) := by decide +kernel
theorem dX2_firstCommand_11 : decode cX2_firstCommand 11 = .ok (.goto 14, 3) := by decide +kernel
theorem dX2_firstCommand_14 : decode cX2_firstCommand 14 = .ok (.aload_n 0, 1) := by decide +kernel
theorem dX2_firstCommand_15 : decode cX2_firstCommand 15 = .ok (.getfield 10, 3) := by decide +kernel
theorem dX2_firstCommand_18 : decode cX2_firstCommand 18 = .ok (.iconst 0, 1) := by decide +kernel
theorem dX2_firstCommand_19 : decode cX2_firstCommand 19 = .ok (.invokevirtual 225, 3) := by decide +kernel
theorem dX2_firstCommand_22 : decode cX2_firstCommand 22 = .ok (.checkcast 67, 3) := by decide +kernel
theorem dX2_firstCommand_25 : decode cX2_firstCommand 25 = .ok (.areturn, 1) := by decide +kernel
theorem dX2_carriageX_0 : decode cX2_carriageX 0 = .ok (.aload_n 0, 1) := by decide +kernel
theorem dX2_carriageX_1 : decode cX2_carriageX 1 = .ok (.invokevirtual 181, 3) := by decide +kernel
theorem dX2_carriageX_4 : decode cX2_carriageX 4 = .ok (.astore_n 1, 1) := by decide +kernel
theorem dX2_carriageX_5 : decode cX2_carriageX 5 = .ok (.aload_n 1, 1) := by decide +kernel
theorem dX2_carriageX_6 : decode cX2_carriageX 6 = .ok (.ifnonnull 10, 3) := by decide +kernel
theorem dX2_carriageX_9 : decode cX2_carriageX 9 = .ok (.aload_n 0, 1) := by decide +kernel
theorem dX2_carriageX_10 : decode cX2_carriageX 10 = .ok (.getfield 206, 3) := by decide +kernel
theorem dX2_carriageX_13 : decode cX2_carriageX 13 = .ok (.goto 16, 3) := by decide +kernel
theorem dX2_carriageX_16 : decode cX2_carriageX 16 = .ok (.aload_n 0, 1) := by decide +kernel
theorem dX2_carriageX_17 : decode cX2_carriageX 17 = .ok (.getfield 206, 3) := by decide +kernel
theorem dX2_carriageX_20 : decode cX2_carriageX 20 = .ok (.aload_n 1, 1) := by decide +kernel
theorem dX2_carriageX_21 : decode cX2_carriageX 21 = .ok (.aload_n 0, 1) := by decide +kernel
theorem dX2_carriageX_22 : decode cX2_carriageX 22 = .ok (.getfield 152, 3) := by decide +kernel
theorem dX2_carriageX_25 : decode cX2_carriageX 25 = .ok (.invokevirtual 131, 3) := by decide +kernel
theorem dX2_carriageX_28 : decode cX2_carriageX 28 = .ok (.iadd, 1) := by decide +kernel
theorem dX2_carriageX_29 : decode cX2_carriageX 29 = .ok (.ireturn, 1) := by decide +kernel
theorem dX2_carriageY_0 : decode cX2_carriageY 0 = .ok (.aload_n 0, 1) := by decide +kernel
theorem dX2_carriageY_1 : decode cX2_carriageY 1 = .ok (.invokevirtual 181, 3) := by decide +kernel
theorem dX2_carriageY_4 : decode cX2_carriageY 4 = .ok (.astore_n 1, 1) := by decide +kernel
theorem dX2_carriageY_5 : decode cX2_carriageY 5 = .ok (.aload_n 1, 1) := by decide +kernel
theorem dX2_carriageY_6 : decode cX2_carriageY 6 = .ok (.ifnonnull 10, 3) := by decide +kernel
theorem dX2_carriageY_9 : decode cX2_carriageY 9 = .ok (.aload_n 0, 1) := by decide +kernel
theorem dX2_carriageY_10 : decode cX2_carriageY 10 = .ok (.getfield 209, 3) := by decide +kernel
theorem dX2_carriageY_13 : decode cX2_carriageY 13 = .ok (.goto 16, 3) := by decide +kernel
theorem dX2_carriageY_16 : decode cX2_carriageY 16 = .ok (.aload_n 0, 1) := by decide +kernel
theorem dX2_carriageY_17 : decode cX2_carriageY 17 = .ok (.getfield 209, 3) := by decide +kernel
theorem dX2_carriageY_20 : decode cX2_carriageY 20 = .ok (.aload_n 1, 1) := by decide +kernel
theorem dX2_carriageY_21 : decode cX2_carriageY 21 = .ok (.aload_n 0, 1) := by decide +kernel
theorem dX2_carriageY_22 : decode cX2_carriageY 22 = .ok (.getfield 152, 3) := by decide +kernel
theorem dX2_carriageY_25 : decode cX2_carriageY 25 = .ok (.invokevirtual 134, 3) := by decide +kernel
theorem dX2_carriageY_28 : decode cX2_carriageY 28 = .ok (.iadd, 1) := by decide +kernel
theorem dX2_carriageY_29 : decode cX2_carriageY 29 = .ok (.ireturn, 1) := by decide +kernel
theorem dX2_lacksInk_0 : decode cX2_lacksInk 0 = .ok (.aload_n 1, 1) := by decide +kernel
theorem dX2_lacksInk_1 : decode cX2_lacksInk 1 = .ok (.invokevirtual 91, 3) := by decide +kernel
theorem dX2_lacksInk_4 : decode cX2_lacksInk 4 = .ok (.ifCond .eq 25, 3) := by decide +kernel
theorem dX2_lacksInk_7 : decode cX2_lacksInk 7 = .ok (.aload_n 0, 1) := by decide +kernel
theorem dX2_lacksInk_8 : decode cX2_lacksInk 8 = .ok (.getfield 158, 3) := by decide +kernel
theorem dX2_lacksInk_11 : decode cX2_lacksInk 11 = .ok (.ifCond .eq 18, 3) := by decide +kernel
theorem dX2_lacksInk_14 : decode cX2_lacksInk 14 = .ok (.aload_n 0, 1) := by decide +kernel
theorem dX2_lacksInk_15 : decode cX2_lacksInk 15 = .ok (.aload_n 0, 1) := by decide +kernel
theorem dX2_lacksInk_16 : decode cX2_lacksInk 16 = .ok (.getfield 200, 3) := by decide +kernel
theorem dX2_lacksInk_19 : decode cX2_lacksInk 19 = .ok (.invokevirtual 167, 3) := by decide +kernel
theorem dX2_lacksInk_22 : decode cX2_lacksInk 22 = .ok (.ifCond .ne 7, 3) := by decide +kernel
theorem dX2_lacksInk_25 : decode cX2_lacksInk 25 = .ok (.iconst 1, 1) := by decide +kernel
theorem dX2_lacksInk_26 : decode cX2_lacksInk 26 = .ok (.goto 4, 3) := by decide +kernel
theorem dX2_lacksInk_29 : decode cX2_lacksInk 29 = .ok (.iconst 0, 1) := by decide +kernel
theorem dX2_lacksInk_30 : decode cX2_lacksInk 30 = .ok (.ireturn, 1) := by decide +kernel
theorem dX2_hasPen_0 : decode cX2_hasPen 0 = .ok (.iload_n 0, 1) := by decide +kernel
theorem dX2_hasPen_1 : decode cX2_hasPen 1 = .ok (.ifCond .lt 12, 3) := by decide +kernel
theorem dX2_hasPen_4 : decode cX2_hasPen 4 = .ok (.iload_n 0, 1) := by decide +kernel
theorem dX2_hasPen_5 : decode cX2_hasPen 5 = .ok (.iconst 3, 1) := by decide +kernel
theorem dX2_hasPen_6 : decode cX2_hasPen 6 = .ok (.if_icmp .ge 7, 3) := by decide +kernel
theorem dX2_hasPen_9 : decode cX2_hasPen 9 = .ok (.iconst 1, 1) := by decide +kernel
theorem dX2_hasPen_10 : decode cX2_hasPen 10 = .ok (.goto 4, 3) := by decide +kernel
theorem dX2_hasPen_13 : decode cX2_hasPen 13 = .ok (.iconst 0, 1) := by decide +kernel
theorem dX2_hasPen_14 : decode cX2_hasPen 14 = .ok (.ireturn, 1) := by decide +kernel
theorem dX2_inkOf_0 : decode cX2_inkOf 0 = .ok (.iload_n 1, 1) := by decide +kernel
theorem dX2_inkOf_1 : decode cX2_inkOf 1 = .ok (.ifCond .lt 21, 3) := by decide +kernel
theorem dX2_inkOf_4 : decode cX2_inkOf 4 = .ok (.iload_n 1, 1) := by decide +kernel
theorem dX2_inkOf_5 : decode cX2_inkOf 5 = .ok (.aload_n 0, 1) := by decide +kernel
theorem dX2_inkOf_6 : decode cX2_inkOf 6 = .ok (.getfield 26, 3) := by decide +kernel
theorem dX2_inkOf_9 : decode cX2_inkOf 9 = .ok (.arraylength, 1) := by decide +kernel
theorem dX2_inkOf_10 : decode cX2_inkOf 10 = .ok (.if_icmp .ge 12, 3) := by decide +kernel
theorem dX2_inkOf_13 : decode cX2_inkOf 13 = .ok (.aload_n 0, 1) := by decide +kernel
theorem dX2_inkOf_14 : decode cX2_inkOf 14 = .ok (.getfield 26, 3) := by decide +kernel
theorem dX2_inkOf_17 : decode cX2_inkOf 17 = .ok (.iload_n 1, 1) := by decide +kernel
theorem dX2_inkOf_18 : decode cX2_inkOf 18 = .ok (.iaload, 1) := by decide +kernel
theorem dX2_inkOf_19 : decode cX2_inkOf 19 = .ok (.goto 4, 3) := by decide +kernel
theorem dX2_inkOf_22 : decode cX2_inkOf 22 = .ok (.iconst 0, 1) := by decide +kernel
theorem dX2_inkOf_23 : decode cX2_inkOf 23 = .ok (.ireturn, 1) := by decide +kernel
theorem dX2_setInk_0 : decode cX2_setInk 0 = .ok (.iload_n 1, 1) := by decide +kernel
theorem dX2_setInk_1 : decode cX2_setInk 1 = .ok (.ifCond .lt 19, 3) := by decide +kernel
theorem dX2_setInk_4 : decode cX2_setInk 4 = .ok (.iload_n 1, 1) := by decide +kernel
theorem dX2_setInk_5 : decode cX2_setInk 5 = .ok (.aload_n 0, 1) := by decide +kernel
theorem dX2_setInk_6 : decode cX2_setInk 6 = .ok (.getfield 26, 3) := by decide +kernel
theorem dX2_setInk_9 : decode cX2_setInk 9 = .ok (.arraylength, 1) := by decide +kernel
theorem dX2_setInk_10 : decode cX2_setInk 10 = .ok (.if_icmp .ge 10, 3) := by decide +kernel
theorem dX2_setInk_13 : decode cX2_setInk 13 = .ok (.aload_n 0, 1) := by decide +kernel
theorem dX2_setInk_14 : decode cX2_setInk 14 = .ok (.getfield 26, 3) := by decide +kernel
theorem dX2_setInk_17 : decode cX2_setInk 17 = .ok (.iload_n 1, 1) := by decide +kernel
theorem dX2_setInk_18 : decode cX2_setInk 18 = .ok (.iload_n 2, 1) := by decide +kernel
theorem dX2_setInk_19 : decode cX2_setInk 19 = .ok (.iastore, 1) := by decide +kernel
theorem dX2_setInk_20 : decode cX2_setInk 20 = .ok (.return_, 1) := by decide +kernel
theorem dX2_isMarked_0 : decode cX2_isMarked 0 = .ok (.iload_n 1, 1) := by decide +kernel
theorem dX2_isMarked_1 : decode cX2_isMarked 1 = .ok (.iload_n 2, 1) := by decide +kernel
theorem dX2_isMarked_2 : decode cX2_isMarked 2 = .ok (.invokestatic 127, 3) := by decide +kernel
theorem dX2_isMarked_5 : decode cX2_isMarked 5 = .ok (.ifCond .ne 13, 3) := by decide +kernel
theorem dX2_isMarked_8 : decode cX2_isMarked 8 = .ok (.new 162, 3) := by decide +kernel
theorem dX2_isMarked_11 : decode cX2_isMarked 11 = .ok (.dup, 1) := by decide +kernel
theorem dX2_isMarked_12 : decode cX2_isMarked 12 = .ok (.ldc 228, 2) := by decide +kernel
theorem dX2_isMarked_14 : decode cX2_isMarked 14 = .ok (.invokespecial 166, 3) := by decide +kernel
theorem dX2_isMarked_17 : decode cX2_isMarked 17 = .ok (.athrow, 1) := by decide +kernel
theorem dX2_isMarked_18 : decode cX2_isMarked 18 = .ok (.aload_n 0, 1) := by decide +kernel
theorem dX2_isMarked_19 : decode cX2_isMarked 19 = .ok (.getfield 19, 3) := by decide +kernel
theorem dX2_isMarked_22 : decode cX2_isMarked 22 = .ok (.iload_n 1, 1) := by decide +kernel
theorem dX2_isMarked_23 : decode cX2_isMarked 23 = .ok (.iload_n 2, 1) := by decide +kernel
theorem dX2_isMarked_24 : decode cX2_isMarked 24 = .ok (.invokevirtual 230, 3) := by decide +kernel
theorem dX2_isMarked_27 : decode cX2_isMarked 27 = .ok (.ireturn, 1) := by decide +kernel
theorem dX2_marks_0 : decode cX2_marks 0 = .ok (.aload_n 0, 1) := by decide +kernel
theorem dX2_marks_1 : decode cX2_marks 1 = .ok (.getfield 19, 3) := by decide +kernel
theorem dX2_marks_4 : decode cX2_marks 4 = .ok (.getfield 233, 3) := by decide +kernel
theorem dX2_marks_7 : decode cX2_marks 7 = .ok (.ireturn, 1) := by decide +kernel
theorem dX2_marksInTheEnd_0 : decode cX2_marksInTheEnd 0 = .ok (.aload_n 0, 1) := by decide +kernel
theorem dX2_marksInTheEnd_1 : decode cX2_marksInTheEnd 1 = .ok (.getfield 23, 3) := by decide +kernel
theorem dX2_marksInTheEnd_4 : decode cX2_marksInTheEnd 4 = .ok (.getfield 233, 3) := by decide +kernel
theorem dX2_marksInTheEnd_7 : decode cX2_marksInTheEnd 7 = .ok (.ireturn, 1) := by decide +kernel
theorem dX2_hasCell_0 : decode cX2_hasCell 0 = .ok (.iload_n 0, 1) := by decide +kernel
theorem dX2_hasCell_1 : decode cX2_hasCell 1 = .ok (.ifCond .lt 23, 3) := by decide +kernel
theorem dX2_hasCell_4 : decode cX2_hasCell 4 = .ok (.iload_n 0, 1) := by decide +kernel
theorem dX2_hasCell_5 : decode cX2_hasCell 5 = .ok (.bipush 100, 2) := by decide +kernel
theorem dX2_hasCell_7 : decode cX2_hasCell 7 = .ok (.if_icmp .ge 17, 3) := by decide +kernel
theorem dX2_hasCell_10 : decode cX2_hasCell 10 = .ok (.iload_n 1, 1) := by decide +kernel
theorem dX2_hasCell_11 : decode cX2_hasCell 11 = .ok (.ifCond .lt 13, 3) := by decide +kernel
theorem dX2_hasCell_14 : decode cX2_hasCell 14 = .ok (.iload_n 1, 1) := by decide +kernel
theorem dX2_hasCell_15 : decode cX2_hasCell 15 = .ok (.bipush 100, 2) := by decide +kernel
theorem dX2_hasCell_17 : decode cX2_hasCell 17 = .ok (.if_icmp .ge 7, 3) := by decide +kernel
theorem dX2_hasCell_20 : decode cX2_hasCell 20 = .ok (.iconst 1, 1) := by decide +kernel
theorem dX2_hasCell_21 : decode cX2_hasCell 21 = .ok (.goto 4, 3) := by decide +kernel
theorem dX2_hasCell_24 : decode cX2_hasCell 24 = .ok (.iconst 0, 1) := by decide +kernel
theorem dX2_hasCell_25 : decode cX2_hasCell 25 = .ok (.ireturn, 1) := by decide +kernel
