theorem dX0_init_0 : decode cX0_init 0 = .ok (.aload_n 0, 1) := by decide +kernel
theorem dX0_init_1 : decode cX0_init 1 = .ok (.invokespecial 3, 3) := by decide +kernel
theorem dX0_init_4 : decode cX0_init 4 = .ok (.aload_n 0, 1) := by decide +kernel
theorem dX0_init_5 : decode cX0_init 5 = .ok (.bipush 24, 2) := by decide +kernel
theorem dX0_init_7 : decode cX0_init 7 = .ok (.newarray .int, 2) := by decide +kernel
theorem dX0_init_9 : decode cX0_init 9 = .ok (.putfield 9, 3) := by decide +kernel
theorem dX0_init_12 : decode cX0_init 12 = .ok (.aload_n 0, 1) := by decide +kernel
theorem dX0_init_13 : decode cX0_init 13 = .ok (.sipush 1024, 3) := by decide +kernel
theorem dX0_init_16 : decode cX0_init 16 = .ok (.newarray .int, 2) := by decide +kernel
theorem dX0_init_18 : decode cX0_init 18 = .ok (.putfield 15, 3) := by decide +kernel
theorem dX0_init_21 : decode cX0_init 21 = .ok (.aload_n 0, 1) := by decide +kernel
theorem dX0_init_22 : decode cX0_init 22 = .ok (.bipush 32, 2) := by decide +kernel
theorem dX0_init_24 : decode cX0_init 24 = .ok (.newarray .int, 2) := by decide +kernel
theorem dX0_init_26 : decode cX0_init 26 = .ok (.putfield 18, 3) := by decide +kernel
theorem dX0_init_29 : decode cX0_init 29 = .ok (.return_, 1) := by decide +kernel
theorem dX0_clear_0 : decode cX0_clear 0 = .ok (.aload_n 0, 1) := by decide +kernel
theorem dX0_clear_1 : decode cX0_clear 1 = .ok (.iconst 0, 1) := by decide +kernel
theorem dX0_clear_2 : decode cX0_clear 2 = .ok (.putfield 21, 3) := by decide +kernel
theorem dX0_clear_5 : decode cX0_clear 5 = .ok (.return_, 1) := by decide +kernel
theorem dX0_add_0 : decode cX0_add 0 = .ok (.aload_n 0, 1) := by decide +kernel
theorem dX0_add_1 : decode cX0_add 1 = .ok (.getfield 21, 3) := by decide +kernel
theorem dX0_add_4 : decode cX0_add 4 = .ok (.aload_n 0, 1) := by decide +kernel
theorem dX0_add_5 : decode cX0_add 5 = .ok (.getfield 9, 3) := by decide +kernel
theorem dX0_add_8 : decode cX0_add 8 = .ok (.arraylength, 1) := by decide +kernel
theorem dX0_add_9 : decode cX0_add 9 = .ok (.if_icmp .ge 23, 3) := by decide +kernel
theorem dX0_add_12 : decode cX0_add 12 = .ok (.aload_n 0, 1) := by decide +kernel
theorem dX0_add_13 : decode cX0_add 13 = .ok (.getfield 9, 3) := by decide +kernel
theorem dX0_add_16 : decode cX0_add 16 = .ok (.aload_n 0, 1) := by decide +kernel
theorem dX0_add_17 : decode cX0_add 17 = .ok (.getfield 21, 3) := by decide +kernel
theorem dX0_add_20 : decode cX0_add 20 = .ok (.iload_n 1, 1) := by decide +kernel
theorem dX0_add_21 : decode cX0_add 21 = .ok (.iastore, 1) := by decide +kernel
theorem dX0_add_22 : decode cX0_add 22 = .ok (.aload_n 0, 1) := by decide +kernel
theorem dX0_add_23 : decode cX0_add 23 = .ok (.dup, 1) := by decide +kernel
theorem dX0_add_24 : decode cX0_add 24 = .ok (.getfield 21, 3) := by decide +kernel
theorem dX0_add_27 : decode cX0_add 27 = .ok (.iconst 1, 1) := by decide +kernel
theorem dX0_add_28 : decode cX0_add 28 = .ok (.iadd, 1) := by decide +kernel
theorem dX0_add_29 : decode cX0_add 29 = .ok (.putfield 21, 3) := by decide +kernel
theorem dX0_add_32 : decode cX0_add 32 = .ok (.return_, 1) := by decide +kernel
theorem dX0_outOfOrder_0 : decode cX0_outOfOrder 0 = .ok (.iconst 0, 1) := by decide +kernel
theorem dX0_outOfOrder_1 : decode cX0_outOfOrder 1 = .ok (.istore_n 2, 1) := by decide +kernel
theorem dX0_outOfOrder_2 : decode cX0_outOfOrder 2 = .ok (.iconst 0, 1) := by decide +kernel
theorem dX0_outOfOrder_3 : decode cX0_outOfOrder 3 = .ok (.istore_n 3, 1) := by decide +kernel
theorem dX0_outOfOrder_4 : decode cX0_outOfOrder 4 = .ok (.iload_n 3, 1) := by decide +kernel
theorem dX0_outOfOrder_5 : decode cX0_outOfOrder 5 = .ok (.aload_n 0, 1) := by decide +kernel
theorem dX0_outOfOrder_6 : decode cX0_outOfOrder 6 = .ok (.getfield 21, 3) := by decide +kernel
theorem dX0_outOfOrder_9 : decode cX0_outOfOrder 9 = .ok (.if_icmp .ge 74, 3) := by decide +kernel
theorem dX0_outOfOrder_12 : decode cX0_outOfOrder 12 = .ok (.iload_n 3, 1) := by decide +kernel
theorem dX0_outOfOrder_13 : decode cX0_outOfOrder 13 = .ok (.iconst 1, 1) := by decide +kernel
theorem dX0_outOfOrder_14 : decode cX0_outOfOrder 14 = .ok (.iadd, 1) := by decide +kernel
theorem dX0_outOfOrder_15 : decode cX0_outOfOrder 15 = .ok (.istore 4, 2) := by decide +kernel
theorem dX0_outOfOrder_17 : decode cX0_outOfOrder 17 = .ok (.iload 4, 2) := by decide +kernel
theorem dX0_outOfOrder_19 : decode cX0_outOfOrder 19 = .ok (.aload_n 0, 1) := by decide +kernel
theorem dX0_outOfOrder_20 : decode cX0_outOfOrder 20 = .ok (.getfield 21, 3) := by decide +kernel
theorem dX0_outOfOrder_23 : decode cX0_outOfOrder 23 = .ok (.if_icmp .ge 54, 3) := by decide +kernel
theorem dX0_outOfOrder_26 : decode cX0_outOfOrder 26 = .ok (.aload_n 0, 1) := by decide +kernel
theorem dX0_outOfOrder_27 : decode cX0_outOfOrder 27 = .ok (.getfield 9, 3) := by decide +kernel
theorem dX0_outOfOrder_30 : decode cX0_outOfOrder 30 = .ok (.iload_n 3, 1) := by decide +kernel
theorem dX0_outOfOrder_31 : decode cX0_outOfOrder 31 = .ok (.iaload, 1) := by decide +kernel
theorem dX0_outOfOrder_32 : decode cX0_outOfOrder 32 = .ok (.aload_n 0, 1) := by decide +kernel
theorem dX0_outOfOrder_33 : decode cX0_outOfOrder 33 = .ok (.getfield 9, 3) := by decide +kernel
theorem dX0_outOfOrder_36 : decode cX0_outOfOrder 36 = .ok (.iload 4, 2) := by decide +kernel
theorem dX0_outOfOrder_38 : decode cX0_outOfOrder 38 = .ok (.iaload, 1) := by decide +kernel
theorem dX0_outOfOrder_39 : decode cX0_outOfOrder 39 = .ok (.if_icmp .le 32, 3) := by decide +kernel
theorem dX0_outOfOrder_42 : decode cX0_outOfOrder 42 = .ok (.aload_n 0, 1) := by decide +kernel
theorem dX0_outOfOrder_43 : decode cX0_outOfOrder 43 = .ok (.getfield 9, 3) := by decide +kernel
theorem dX0_outOfOrder_46 : decode cX0_outOfOrder 46 = .ok (.iload_n 3, 1) := by decide +kernel
theorem dX0_outOfOrder_47 : decode cX0_outOfOrder 47 = .ok (.iaload, 1) := by decide +kernel
theorem dX0_outOfOrder_48 : decode cX0_outOfOrder 48 = .ok (.iload_n 1, 1) := by decide +kernel
theorem dX0_outOfOrder_49 : decode cX0_outOfOrder 49 = .ok (.imul, 1) := by decide +kernel
theorem dX0_outOfOrder_50 : decode cX0_outOfOrder 50 = .ok (.bipush 32, 2) := by decide +kernel
theorem dX0_outOfOrder_52 : decode cX0_outOfOrder 52 = .ok (.idiv, 1) := by decide +kernel
theorem dX0_outOfOrder_53 : decode cX0_outOfOrder 53 = .ok (.aload_n 0, 1) := by decide +kernel
theorem dX0_outOfOrder_54 : decode cX0_outOfOrder 54 = .ok (.getfield 9, 3) := by decide +kernel
theorem dX0_outOfOrder_57 : decode cX0_outOfOrder 57 = .ok (.iload 4, 2) := by decide +kernel
theorem dX0_outOfOrder_59 : decode cX0_outOfOrder 59 = .ok (.iaload, 1) := by decide +kernel
theorem dX0_outOfOrder_60 : decode cX0_outOfOrder 60 = .ok (.iload_n 1, 1) := by decide +kernel
theorem dX0_outOfOrder_61 : decode cX0_outOfOrder 61 = .ok (.imul, 1) := by decide +kernel
theorem dX0_outOfOrder_62 : decode cX0_outOfOrder 62 = .ok (.bipush 32, 2) := by decide +kernel
theorem dX0_outOfOrder_64 : decode cX0_outOfOrder 64 = .ok (.idiv, 1) := by decide +kernel
theorem dX0_outOfOrder_65 : decode cX0_outOfOrder 65 = .ok (.if_icmp .ne 6, 3) := by decide +kernel
theorem dX0_outOfOrder_68 : decode cX0_outOfOrder 68 = .ok (.iinc 2 1, 3) := by decide +kernel
theorem dX0_outOfOrder_71 : decode cX0_outOfOrder 71 = .ok (.iinc 4 1, 3) := by decide +kernel
theorem dX0_outOfOrder_74 : decode cX0_outOfOrder 74 = .ok (.goto (-57), 3) := by decide +kernel
theorem dX0_outOfOrder_77 : decode cX0_outOfOrder 77 = .ok (.iinc 3 1, 3) := by decide +kernel
theorem dX0_outOfOrder_80 : decode cX0_outOfOrder 80 = .ok (.goto (-76), 3) := by decide +kernel
theorem dX0_outOfOrder_83 : decode cX0_outOfOrder 83 = .ok (.iload_n 2, 1) := by decide +kernel
theorem dX0_outOfOrder_84 : decode cX0_outOfOrder 84 = .ok (.ireturn, 1) := by decide +kernel
theorem dX0_bestCut_0 : decode cX0_bestCut 0 = .ok (.aload_n 0, 1) := by decide +kernel
theorem dX0_bestCut_1 : decode cX0_bestCut 1 = .ok (.invokevirtual 25, 3) := by decide +kernel
theorem dX0_bestCut_4 : decode cX0_bestCut 4 = .ok (.aload_n 0, 1) := by decide +kernel
theorem dX0_bestCut_5 : decode cX0_bestCut 5 = .ok (.invokevirtual 28, 3) := by decide +kernel
theorem dX0_bestCut_8 : decode cX0_bestCut 8 = .ok (.iconst 0, 1) := by decide +kernel
theorem dX0_bestCut_9 : decode cX0_bestCut 9 = .ok (.istore_n 2, 1) := by decide +kernel
theorem dX0_bestCut_10 : decode cX0_bestCut 10 = .ok (.iload_n 2, 1) := by decide +kernel
theorem dX0_bestCut_11 : decode cX0_bestCut 11 = .ok (.bipush 32, 2) := by decide +kernel
theorem dX0_bestCut_13 : decode cX0_bestCut 13 = .ok (.if_icmp .ge 21, 3) := by decide +kernel
theorem dX0_bestCut_16 : decode cX0_bestCut 16 = .ok (.aload_n 0, 1) := by decide +kernel
theorem dX0_bestCut_17 : decode cX0_bestCut 17 = .ok (.getfield 18, 3) := by decide +kernel
theorem dX0_bestCut_20 : decode cX0_bestCut 20 = .ok (.iload_n 2, 1) := by decide +kernel
theorem dX0_bestCut_21 : decode cX0_bestCut 21 = .ok (.aload_n 0, 1) := by decide +kernel
theorem dX0_bestCut_22 : decode cX0_bestCut 22 = .ok (.getfield 15, 3) := by decide +kernel
theorem dX0_bestCut_25 : decode cX0_bestCut 25 = .ok (.iload_n 2, 1) := by decide +kernel
theorem dX0_bestCut_26 : decode cX0_bestCut 26 = .ok (.iaload, 1) := by decide +kernel
theorem dX0_bestCut_27 : decode cX0_bestCut 27 = .ok (.iastore, 1) := by decide +kernel
theorem dX0_bestCut_28 : decode cX0_bestCut 28 = .ok (.iinc 2 1, 3) := by decide +kernel
theorem dX0_bestCut_31 : decode cX0_bestCut 31 = .ok (.goto (-21), 3) := by decide +kernel
theorem dX0_bestCut_34 : decode cX0_bestCut 34 = .ok (.iconst 2, 1) := by decide +kernel
theorem dX0_bestCut_35 : decode cX0_bestCut 35 = .ok (.istore_n 2, 1) := by decide +kernel
theorem dX0_bestCut_36 : decode cX0_bestCut 36 = .ok (.iload_n 2, 1) := by decide +kernel
theorem dX0_bestCut_37 : decode cX0_bestCut 37 = .ok (.iload_n 1, 1) := by decide +kernel
theorem dX0_bestCut_38 : decode cX0_bestCut 38 = .ok (.if_icmp .gt 13, 3) := by decide +kernel
theorem dX0_bestCut_41 : decode cX0_bestCut 41 = .ok (.aload_n 0, 1) := by decide +kernel
theorem dX0_bestCut_42 : decode cX0_bestCut 42 = .ok (.invokevirtual 31, 3) := by decide +kernel
theorem dX0_bestCut_45 : decode cX0_bestCut 45 = .ok (.iinc 2 1, 3) := by decide +kernel
theorem dX0_bestCut_48 : decode cX0_bestCut 48 = .ok (.goto (-12), 3) := by decide +kernel
theorem dX0_bestCut_51 : decode cX0_bestCut 51 = .ok (.aload_n 0, 1) := by decide +kernel
theorem dX0_bestCut_52 : decode cX0_bestCut 52 = .ok (.getfield 18, 3) := by decide +kernel
theorem dX0_bestCut_55 : decode cX0_bestCut 55 = .ok (.bipush 31, 2) := by decide +kernel
theorem dX0_bestCut_57 : decode cX0_bestCut 57 = .ok (.iaload, 1) := by decide +kernel
theorem dX0_bestCut_58 : decode cX0_bestCut 58 = .ok (.ireturn, 1) := by decide +kernel
theorem dX0_countPairs_0 : decode cX0_countPairs 0 = .ok (.aload_n 0, 1) := by decide +kernel
theorem dX0_countPairs_1 : decode cX0_countPairs 1 = .ok (.getfield 15, 3) := by decide +kernel
theorem dX0_countPairs_4 : decode cX0_countPairs 4 = .ok (.iconst 0, 1) := by decide +kernel
theorem dX0_countPairs_5 : decode cX0_countPairs 5 = .ok (.invokestatic 34, 3) := by decide +kernel
theorem dX0_countPairs_8 : decode cX0_countPairs 8 = .ok (.iconst 0, 1) := by decide +kernel
theorem dX0_countPairs_9 : decode cX0_countPairs 9 = .ok (.istore_n 1, 1) := by decide +kernel
theorem dX0_countPairs_10 : decode cX0_countPairs 10 = .ok (.iload_n 1, 1) := by decide +kernel
theorem dX0_countPairs_11 : decode cX0_countPairs 11 = .ok (.aload_n 0, 1) := by decide +kernel
theorem dX0_countPairs_12 : decode cX0_countPairs 12 = .ok (.getfield 21, 3) := by decide +kernel
theorem dX0_countPairs_15 : decode cX0_countPairs 15 = .ok (.if_icmp .ge 67, 3) := by decide +kernel
theorem dX0_countPairs_18 : decode cX0_countPairs 18 = .ok (.iload_n 1, 1) := by decide +kernel
theorem dX0_countPairs_19 : decode cX0_countPairs 19 = .ok (.iconst 1, 1) := by decide +kernel
theorem dX0_countPairs_20 : decode cX0_countPairs 20 = .ok (.iadd, 1) := by decide +kernel
theorem dX0_countPairs_21 : decode cX0_countPairs 21 = .ok (.istore_n 2, 1) := by decide +kernel
theorem dX0_countPairs_22 : decode cX0_countPairs 22 = .ok (.iload_n 2, 1) := by decide +kernel
theorem dX0_countPairs_23 : decode cX0_countPairs 23 = .ok (.aload_n 0, 1) := by decide +kernel
theorem dX0_countPairs_24 : decode cX0_countPairs 24 = .ok (.getfield 21, 3) := by decide +kernel
theorem dX0_countPairs_27 : decode cX0_countPairs 27 = .ok (.if_icmp .ge 49, 3) := by decide +kernel
theorem dX0_countPairs_30 : decode cX0_countPairs 30 = .ok (.aload_n 0, 1) := by decide +kernel
theorem dX0_countPairs_31 : decode cX0_countPairs 31 = .ok (.getfield 9, 3) := by decide +kernel
theorem dX0_countPairs_34 : decode cX0_countPairs 34 = .ok (.iload_n 1, 1) := by decide +kernel
theorem dX0_countPairs_35 : decode cX0_countPairs 35 = .ok (.iaload, 1) := by decide +kernel
theorem dX0_countPairs_36 : decode cX0_countPairs 36 = .ok (.aload_n 0, 1) := by decide +kernel
theorem dX0_countPairs_37 : decode cX0_countPairs 37 = .ok (.getfield 9, 3) := by decide +kernel
theorem dX0_countPairs_40 : decode cX0_countPairs 40 = .ok (.iload_n 2, 1) := by decide +kernel
theorem dX0_countPairs_41 : decode cX0_countPairs 41 = .ok (.iaload, 1) := by decide +kernel
theorem dX0_countPairs_42 : decode cX0_countPairs 42 = .ok (.if_icmp .le 28, 3) := by decide +kernel
theorem dX0_countPairs_45 : decode cX0_countPairs 45 = .ok (.aload_n 0, 1) := by decide +kernel
theorem dX0_countPairs_46 : decode cX0_countPairs 46 = .ok (.getfield 15, 3) := by decide +kernel
theorem dX0_countPairs_49 : decode cX0_countPairs 49 = .ok (.aload_n 0, 1) := by decide +kernel
theorem dX0_countPairs_50 : decode cX0_countPairs 50 = .ok (.getfield 9, 3) := by decide +kernel
theorem dX0_countPairs_53 : decode cX0_countPairs 53 = .ok (.iload_n 2, 1) := by decide +kernel
theorem dX0_countPairs_54 : decode cX0_countPairs 54 = .ok (.iaload, 1) := by decide +kernel
theorem dX0_countPairs_55 : decode cX0_countPairs 55 = .ok (.bipush 32, 2) := by decide +kernel
theorem dX0_countPairs_57 : decode cX0_countPairs 57 = .ok (.imul, 1) := by decide +kernel
theorem dX0_countPairs_58 : decode cX0_countPairs 58 = .ok (.aload_n 0, 1) := by decide +kernel
theorem dX0_countPairs_59 : decode cX0_countPairs 59 = .ok (.getfield 9, 3) := by decide +kernel
theorem dX0_countPairs_62 : decode cX0_countPairs 62 = .ok (.iload_n 1, 1) := by decide +kernel
theorem dX0_countPairs_63 : decode cX0_countPairs 63 = .ok (.iaload, 1) := by decide +kernel
theorem dX0_countPairs_64 : decode cX0_countPairs 64 = .ok (.iadd, 1) := by decide +kernel
theorem dX0_countPairs_65 : decode cX0_countPairs 65 = .ok (.dup2, 1) := by decide +kernel
theorem dX0_countPairs_66 : decode cX0_countPairs 66 = .ok (.iaload, 1) := by decide +kernel
theorem dX0_countPairs_67 : decode cX0_countPairs 67 = .ok (.iconst 1, 1) := by decide +kernel
theorem dX0_countPairs_68 : decode cX0_countPairs 68 = .ok (.iadd, 1) := by decide +kernel
theorem dX0_countPairs_69 : decode cX0_countPairs 69 = .ok (.iastore, 1) := by decide +kernel
theorem dX0_countPairs_70 : decode cX0_countPairs 70 = .ok (.iinc 2 1, 3) := by decide +kernel
theorem dX0_countPairs_73 : decode cX0_countPairs 73 = .ok (.goto (-51), 3) := by decide +kernel
theorem dX0_countPairs_76 : decode cX0_countPairs 76 = .ok (.iinc 1 1, 3) := by decide +kernel
theorem dX0_countPairs_79 : decode cX0_countPairs 79 = .ok (.goto (-69), 3) := by decide +kernel
theorem dX0_countPairs_82 : decode cX0_countPairs 82 = .ok (.return_, 1) := by decide +kernel
theorem dX0_addUpSpans_0 : decode cX0_addUpSpans 0 = .ok (.iconst 1, 1) := by decide +kernel
theorem dX0_addUpSpans_1 : decode cX0_addUpSpans 1 = .ok (.istore_n 1, 1) := by decide +kernel
theorem dX0_addUpSpans_2 : decode cX0_addUpSpans 2 = .ok (.iload_n 1, 1) := by decide +kernel
theorem dX0_addUpSpans_3 : decode cX0_addUpSpans 3 = .ok (.bipush 32, 2) := by decide +kernel
theorem dX0_addUpSpans_5 : decode cX0_addUpSpans 5 = .ok (.if_icmp .ge 90, 3) := by decide +kernel
theorem dX0_addUpSpans_8 : decode cX0_addUpSpans 8 = .ok (.iconst 0, 1) := by decide +kernel
theorem dX0_addUpSpans_9 : decode cX0_addUpSpans 9 = .ok (.istore_n 2, 1) := by decide +kernel
theorem dX0_addUpSpans_10 : decode cX0_addUpSpans 10 = .ok (.iload_n 2, 1) := by decide +kernel
theorem dX0_addUpSpans_11 : decode cX0_addUpSpans 11 = .ok (.iload_n 1, 1) := by decide +kernel
theorem dX0_addUpSpans_12 : decode cX0_addUpSpans 12 = .ok (.iadd, 1) := by decide +kernel
theorem dX0_addUpSpans_13 : decode cX0_addUpSpans 13 = .ok (.bipush 32, 2) := by decide +kernel
theorem dX0_addUpSpans_15 : decode cX0_addUpSpans 15 = .ok (.if_icmp .ge 74, 3) := by decide +kernel
theorem dX0_addUpSpans_18 : decode cX0_addUpSpans 18 = .ok (.iload_n 2, 1) := by decide +kernel
theorem dX0_addUpSpans_19 : decode cX0_addUpSpans 19 = .ok (.iload_n 1, 1) := by decide +kernel
theorem dX0_addUpSpans_20 : decode cX0_addUpSpans 20 = .ok (.iadd, 1) := by decide +kernel
theorem dX0_addUpSpans_21 : decode cX0_addUpSpans 21 = .ok (.istore_n 3, 1) := by decide +kernel
theorem dX0_addUpSpans_22 : decode cX0_addUpSpans 22 = .ok (.aload_n 0, 1) := by decide +kernel
theorem dX0_addUpSpans_23 : decode cX0_addUpSpans 23 = .ok (.getfield 15, 3) := by decide +kernel
theorem dX0_addUpSpans_26 : decode cX0_addUpSpans 26 = .ok (.iload_n 2, 1) := by decide +kernel
theorem dX0_addUpSpans_27 : decode cX0_addUpSpans 27 = .ok (.iconst 1, 1) := by decide +kernel
theorem dX0_addUpSpans_28 : decode cX0_addUpSpans 28 = .ok (.iadd, 1) := by decide +kernel
theorem dX0_addUpSpans_29 : decode cX0_addUpSpans 29 = .ok (.bipush 32, 2) := by decide +kernel
theorem dX0_addUpSpans_31 : decode cX0_addUpSpans 31 = .ok (.imul, 1) := by decide +kernel
theorem dX0_addUpSpans_32 : decode cX0_addUpSpans 32 = .ok (.iload_n 3, 1) := by decide +kernel
theorem dX0_addUpSpans_33 : decode cX0_addUpSpans 33 = .ok (.iadd, 1) := by decide +kernel
theorem dX0_addUpSpans_34 : decode cX0_addUpSpans 34 = .ok (.iaload, 1) := by decide +kernel
theorem dX0_addUpSpans_35 : decode cX0_addUpSpans 35 = .ok (.aload_n 0, 1) := by decide +kernel
theorem dX0_addUpSpans_36 : decode cX0_addUpSpans 36 = .ok (.getfield 15, 3) := by decide +kernel
theorem dX0_addUpSpans_39 : decode cX0_addUpSpans 39 = .ok (.iload_n 2, 1) := by decide +kernel
theorem dX0_addUpSpans_40 : decode cX0_addUpSpans 40 = .ok (.bipush 32, 2) := by decide +kernel
theorem dX0_addUpSpans_42 : decode cX0_addUpSpans 42 = .ok (.imul, 1) := by decide +kernel
theorem dX0_addUpSpans_43 : decode cX0_addUpSpans 43 = .ok (.iload_n 3, 1) := by decide +kernel
theorem dX0_addUpSpans_44 : decode cX0_addUpSpans 44 = .ok (.iadd, 1) := by decide +kernel
theorem dX0_addUpSpans_45 : decode cX0_addUpSpans 45 = .ok (.iconst 1, 1) := by decide +kernel
theorem dX0_addUpSpans_46 : decode cX0_addUpSpans 46 = .ok (.isub, 1) := by decide +kernel
theorem dX0_addUpSpans_47 : decode cX0_addUpSpans 47 = .ok (.iaload, 1) := by decide +kernel
theorem dX0_addUpSpans_48 : decode cX0_addUpSpans 48 = .ok (.iadd, 1) := by decide +kernel
theorem dX0_addUpSpans_49 : decode cX0_addUpSpans 49 = .ok (.istore 4, 2) := by decide +kernel
theorem dX0_addUpSpans_51 : decode cX0_addUpSpans 51 = .ok (.aload_n 0, 1) := by decide +kernel
theorem dX0_addUpSpans_52 : decode cX0_addUpSpans 52 = .ok (.getfield 15, 3) := by decide +kernel
theorem dX0_addUpSpans_55 : decode cX0_addUpSpans 55 = .ok (.iload_n 2, 1) := by decide +kernel
theorem dX0_addUpSpans_56 : decode cX0_addUpSpans 56 = .ok (.bipush 32, 2) := by decide +kernel
theorem dX0_addUpSpans_58 : decode cX0_addUpSpans 58 = .ok (.imul, 1) := by decide +kernel
theorem dX0_addUpSpans_59 : decode cX0_addUpSpans 59 = .ok (.iload_n 3, 1) := by decide +kernel
theorem dX0_addUpSpans_60 : decode cX0_addUpSpans 60 = .ok (.iadd, 1) := by decide +kernel
theorem dX0_addUpSpans_61 : decode cX0_addUpSpans 61 = .ok (.dup2, 1) := by decide +kernel
theorem dX0_addUpSpans_62 : decode cX0_addUpSpans 62 = .ok (.iaload, 1) := by decide +kernel
theorem dX0_addUpSpans_63 : decode cX0_addUpSpans 63 = .ok (.iload 4, 2) := by decide +kernel
theorem dX0_addUpSpans_65 : decode cX0_addUpSpans 65 = .ok (.aload_n 0, 1) := by decide +kernel
theorem dX0_addUpSpans_66 : decode cX0_addUpSpans 66 = .ok (.getfield 15, 3) := by decide +kernel
theorem dX0_addUpSpans_69 : decode cX0_addUpSpans 69 = .ok (.iload_n 2, 1) := by decide +kernel
theorem dX0_addUpSpans_70 : decode cX0_addUpSpans 70 = .ok (.iconst 1, 1) := by decide +kernel
theorem dX0_addUpSpans_71 : decode cX0_addUpSpans 71 = .ok (.iadd, 1) := by decide +kernel
theorem dX0_addUpSpans_72 : decode cX0_addUpSpans 72 = .ok (.bipush 32, 2) := by decide +kernel
theorem dX0_addUpSpans_74 : decode cX0_addUpSpans 74 = .ok (.imul, 1) := by decide +kernel
theorem dX0_addUpSpans_75 : decode cX0_addUpSpans 75 = .ok (.iload_n 3, 1) := by decide +kernel
theorem dX0_addUpSpans_76 : decode cX0_addUpSpans 76 = .ok (.iadd, 1) := by decide +kernel
theorem dX0_addUpSpans_77 : decode cX0_addUpSpans 77 = .ok (.iconst 1, 1) := by decide +kernel
theorem dX0_addUpSpans_78 : decode cX0_addUpSpans 78 = .ok (.isub, 1) := by decide +kernel
theorem dX0_addUpSpans_79 : decode cX0_addUpSpans 79 = .ok (.iaload, 1) := by decide +kernel
theorem dX0_addUpSpans_80 : decode cX0_addUpSpans 80 = .ok (.isub, 1) := by decide +kernel
theorem dX0_addUpSpans_81 : decode cX0_addUpSpans 81 = .ok (.iadd, 1) := by decide +kernel
theorem dX0_addUpSpans_82 : decode cX0_addUpSpans 82 = .ok (.iastore, 1) := by decide +kernel
theorem dX0_addUpSpans_83 : decode cX0_addUpSpans 83 = .ok (.iinc 2 1, 3) := by decide +kernel
theorem dX0_addUpSpans_86 : decode cX0_addUpSpans 86 = .ok (.goto (-76), 3) := by decide +kernel
theorem dX0_addUpSpans_89 : decode cX0_addUpSpans 89 = .ok (.iinc 1 1, 3) := by decide +kernel
theorem dX0_addUpSpans_92 : decode cX0_addUpSpans 92 = .ok (.goto (-90), 3) := by decide +kernel
theorem dX0_addUpSpans_95 : decode cX0_addUpSpans 95 = .ok (.return_, 1) := by decide +kernel
theorem dX0_addHeap_0 : decode cX0_addHeap 0 = .ok (.bipush 31, 2) := by decide +kernel
theorem dX0_addHeap_2 : decode cX0_addHeap 2 = .ok (.istore_n 1, 1) := by decide +kernel
theorem dX0_addHeap_3 : decode cX0_addHeap 3 = .ok (.iload_n 1, 1) := by decide +kernel
theorem dX0_addHeap_4 : decode cX0_addHeap 4 = .ok (.ifCond .le 57, 3) := by decide +kernel
theorem dX0_addHeap_7 : decode cX0_addHeap 7 = .ok (.iconst 1, 1) := by decide +kernel
theorem dX0_addHeap_8 : decode cX0_addHeap 8 = .ok (.istore_n 2, 1) := by decide +kernel
theorem dX0_addHeap_9 : decode cX0_addHeap 9 = .ok (.iload_n 2, 1) := by decide +kernel
theorem dX0_addHeap_10 : decode cX0_addHeap 10 = .ok (.iload_n 1, 1) := by decide +kernel
theorem dX0_addHeap_11 : decode cX0_addHeap 11 = .ok (.if_icmp .gt 44, 3) := by decide +kernel
theorem dX0_addHeap_14 : decode cX0_addHeap 14 = .ok (.aload_n 0, 1) := by decide +kernel
theorem dX0_addHeap_15 : decode cX0_addHeap 15 = .ok (.getfield 18, 3) := by decide +kernel
theorem dX0_addHeap_18 : decode cX0_addHeap 18 = .ok (.iload_n 1, 1) := by decide +kernel
theorem dX0_addHeap_19 : decode cX0_addHeap 19 = .ok (.aload_n 0, 1) := by decide +kernel
theorem dX0_addHeap_20 : decode cX0_addHeap 20 = .ok (.getfield 18, 3) := by decide +kernel
theorem dX0_addHeap_23 : decode cX0_addHeap 23 = .ok (.iload_n 1, 1) := by decide +kernel
theorem dX0_addHeap_24 : decode cX0_addHeap 24 = .ok (.iaload, 1) := by decide +kernel
theorem dX0_addHeap_25 : decode cX0_addHeap 25 = .ok (.aload_n 0, 1) := by decide +kernel
theorem dX0_addHeap_26 : decode cX0_addHeap 26 = .ok (.getfield 18, 3) := by decide +kernel
theorem dX0_addHeap_29 : decode cX0_addHeap 29 = .ok (.iload_n 2, 1) := by decide +kernel
theorem dX0_addHeap_30 : decode cX0_addHeap 30 = .ok (.iconst 1, 1) := by decide +kernel
theorem dX0_addHeap_31 : decode cX0_addHeap 31 = .ok (.isub, 1) := by decide +kernel
theorem dX0_addHeap_32 : decode cX0_addHeap 32 = .ok (.iaload, 1) := by decide +kernel
theorem dX0_addHeap_33 : decode cX0_addHeap 33 = .ok (.aload_n 0, 1) := by decide +kernel
theorem dX0_addHeap_34 : decode cX0_addHeap 34 = .ok (.getfield 15, 3) := by decide +kernel
theorem dX0_addHeap_37 : decode cX0_addHeap 37 = .ok (.iload_n 2, 1) := by decide +kernel
theorem dX0_addHeap_38 : decode cX0_addHeap 38 = .ok (.bipush 32, 2) := by decide +kernel
theorem dX0_addHeap_40 : decode cX0_addHeap 40 = .ok (.imul, 1) := by decide +kernel
theorem dX0_addHeap_41 : decode cX0_addHeap 41 = .ok (.iload_n 1, 1) := by decide +kernel
theorem dX0_addHeap_42 : decode cX0_addHeap 42 = .ok (.iadd, 1) := by decide +kernel
theorem dX0_addHeap_43 : decode cX0_addHeap 43 = .ok (.iaload, 1) := by decide +kernel
theorem dX0_addHeap_44 : decode cX0_addHeap 44 = .ok (.iadd, 1) := by decide +kernel
theorem dX0_addHeap_45 : decode cX0_addHeap 45 = .ok (.invokestatic 40, 3) := by decide +kernel
theorem dX0_addHeap_48 : decode cX0_addHeap 48 = .ok (.iastore, 1) := by decide +kernel
theorem dX0_addHeap_49 : decode cX0_addHeap 49 = .ok (.iinc 2 1, 3) := by decide +kernel
theorem dX0_addHeap_52 : decode cX0_addHeap 52 = .ok (.goto (-43), 3) := by decide +kernel
theorem dX0_addHeap_55 : decode cX0_addHeap 55 = .ok (.iinc 1 (-1), 3) := by decide +kernel
theorem dX0_addHeap_58 : decode cX0_addHeap 58 = .ok (.goto (-55), 3) := by decide +kernel
theorem dX0_addHeap_61 : decode cX0_addHeap 61 = .ok (.return_, 1) := by decide +kernel
theorem dX1_init_0 : decode cX1_init 0 = .ok (.aload_n 0, 1) := by decide +kernel
theorem dX1_init_1 : decode cX1_init 1 = .ok (.invokespecial 3, 3) := by decide +kernel
theorem dX1_init_4 : decode cX1_init 4 = .ok (.aload_n 0, 1) := by decide +kernel
theorem dX1_init_5 : decode cX1_init 5 = .ok (.bipush 25, 2) := by decide +kernel
theorem dX1_init_7 : decode cX1_init 7 = .ok (.anewarray 9, 3) := by decide +kernel
theorem dX1_init_10 : decode cX1_init 10 = .ok (.putfield 11, 3) := by decide +kernel
theorem dX1_init_13 : decode cX1_init 13 = .ok (.return_, 1) := by decide +kernel
theorem dX1_at_0 : decode cX1_at 0 = .ok (.iload_n 1, 1) := by decide +kernel
theorem dX1_at_1 : decode cX1_at 1 = .ok (.ifCond .lt 20, 3) := by decide +kernel
theorem dX1_at_4 : decode cX1_at 4 = .ok (.iload_n 1, 1) := by decide +kernel
theorem dX1_at_5 : decode cX1_at 5 = .ok (.aload_n 0, 1) := by decide +kernel
theorem dX1_at_6 : decode cX1_at 6 = .ok (.getfield 17, 3) := by decide +kernel
theorem dX1_at_9 : decode cX1_at 9 = .ok (.if_icmp .ge 12, 3) := by decide +kernel
theorem dX1_at_12 : decode cX1_at 12 = .ok (.iload_n 1, 1) := by decide +kernel
theorem dX1_at_13 : decode cX1_at 13 = .ok (.aload_n 0, 1) := by decide +kernel
theorem dX1_at_14 : decode cX1_at 14 = .ok (.getfield 11, 3) := by decide +kernel
theorem dX1_at_17 : decode cX1_at 17 = .ok (.arraylength, 1) := by decide +kernel
theorem dX1_at_18 : decode cX1_at 18 = .ok (.if_icmp .lt 7, 3) := by decide +kernel
theorem dX1_at_21 : decode cX1_at 21 = .ok (.aconst_null, 1) := by decide +kernel
theorem dX1_at_22 : decode cX1_at 22 = .ok (.goto 9, 3) := by decide +kernel
theorem dX1_at_25 : decode cX1_at 25 = .ok (.aload_n 0, 1) := by decide +kernel
theorem dX1_at_26 : decode cX1_at 26 = .ok (.getfield 11, 3) := by decide +kernel
theorem dX1_at_29 : decode cX1_at 29 = .ok (.iload_n 1, 1) := by decide +kernel
theorem dX1_at_30 : decode cX1_at 30 = .ok (.aaload, 1) := by decide +kernel
theorem dX1_at_31 : decode cX1_at 31 = .ok (.areturn, 1) := by decide +kernel
theorem dX1_add_0 : decode cX1_add 0 = .ok (.aload_n 0, 1) := by decide +kernel
theorem dX1_add_1 : decode cX1_add 1 = .ok (.getfield 17, 3) := by decide +kernel
theorem dX1_add_4 : decode cX1_add 4 = .ok (.aload_n 0, 1) := by decide +kernel
theorem dX1_add_5 : decode cX1_add 5 = .ok (.getfield 11, 3) := by decide +kernel
theorem dX1_add_8 : decode cX1_add 8 = .ok (.arraylength, 1) := by decide +kernel
theorem dX1_add_9 : decode cX1_add 9 = .ok (.if_icmp .ge 23, 3) := by decide +kernel
theorem dX1_add_12 : decode cX1_add 12 = .ok (.aload_n 0, 1) := by decide +kernel
theorem dX1_add_13 : decode cX1_add 13 = .ok (.getfield 11, 3) := by decide +kernel
theorem dX1_add_16 : decode cX1_add 16 = .ok (.aload_n 0, 1) := by decide +kernel
theorem dX1_add_17 : decode cX1_add 17 = .ok (.getfield 17, 3) := by decide +kernel
theorem dX1_add_20 : decode cX1_add 20 = .ok (.aload_n 1, 1) := by decide +kernel
theorem dX1_add_21 : decode cX1_add 21 = .ok (.aastore, 1) := by decide +kernel
theorem dX1_add_22 : decode cX1_add 22 = .ok (.aload_n 0, 1) := by decide +kernel
theorem dX1_add_23 : decode cX1_add 23 = .ok (.dup, 1) := by decide +kernel
theorem dX1_add_24 : decode cX1_add 24 = .ok (.getfield 17, 3) := by decide +kernel
theorem dX1_add_27 : decode cX1_add 27 = .ok (.iconst 1, 1) := by decide +kernel
theorem dX1_add_28 : decode cX1_add 28 = .ok (.iadd, 1) := by decide +kernel
theorem dX1_add_29 : decode cX1_add 29 = .ok (.putfield 17, 3) := by decide +kernel
theorem dX1_add_32 : decode cX1_add 32 = .ok (.return_, 1) := by decide +kernel
theorem dX1_removeAt_0 : decode cX1_removeAt 0 = .ok (.iload_n 1, 1) := by decide +kernel
theorem dX1_removeAt_1 : decode cX1_removeAt 1 = .ok (.ifCond .lt 23, 3) := by decide +kernel
theorem dX1_removeAt_4 : decode cX1_removeAt 4 = .ok (.iload_n 1, 1) := by decide +kernel
theorem dX1_removeAt_5 : decode cX1_removeAt 5 = .ok (.aload_n 0, 1) := by decide +kernel
theorem dX1_removeAt_6 : decode cX1_removeAt 6 = .ok (.getfield 17, 3) := by decide +kernel
theorem dX1_removeAt_9 : decode cX1_removeAt 9 = .ok (.if_icmp .ge 15, 3) := by decide +kernel
theorem dX1_removeAt_12 : decode cX1_removeAt 12 = .ok (.aload_n 0, 1) := by decide +kernel
theorem dX1_removeAt_13 : decode cX1_removeAt 13 = .ok (.getfield 17, 3) := by decide +kernel
theorem dX1_removeAt_16 : decode cX1_removeAt 16 = .ok (.aload_n 0, 1) := by decide +kernel
theorem dX1_removeAt_17 : decode cX1_removeAt 17 = .ok (.getfield 11, 3) := by decide +kernel
theorem dX1_removeAt_20 : decode cX1_removeAt 20 = .ok (.arraylength, 1) := by decide +kernel
theorem dX1_removeAt_21 : decode cX1_removeAt 21 = .ok (.if_icmp .le 4, 3) := by decide +kernel
theorem dX1_removeAt_24 : decode cX1_removeAt 24 = .ok (.return_, 1) := by decide +kernel
theorem dX1_removeAt_25 : decode cX1_removeAt 25 = .ok (.iload_n 1, 1) := by decide +kernel
theorem dX1_removeAt_26 : decode cX1_removeAt 26 = .ok (.iconst 1, 1) := by decide +kernel
theorem dX1_removeAt_27 : decode cX1_removeAt 27 = .ok (.iadd, 1) := by decide +kernel
theorem dX1_removeAt_28 : decode cX1_removeAt 28 = .ok (.istore_n 2, 1) := by decide +kernel
theorem dX1_removeAt_29 : decode cX1_removeAt 29 = .ok (.iload_n 2, 1) := by decide +kernel
theorem dX1_removeAt_30 : decode cX1_removeAt 30 = .ok (.aload_n 0, 1) := by decide +kernel
theorem dX1_removeAt_31 : decode cX1_removeAt 31 = .ok (.getfield 17, 3) := by decide +kernel
theorem dX1_removeAt_34 : decode cX1_removeAt 34 = .ok (.if_icmp .ge 23, 3) := by decide +kernel
theorem dX1_removeAt_37 : decode cX1_removeAt 37 = .ok (.aload_n 0, 1) := by decide +kernel
theorem dX1_removeAt_38 : decode cX1_removeAt 38 = .ok (.getfield 11, 3) := by decide +kernel
theorem dX1_removeAt_41 : decode cX1_removeAt 41 = .ok (.iload_n 2, 1) := by decide +kernel
theorem dX1_removeAt_42 : decode cX1_removeAt 42 = .ok (.iconst 1, 1) := by decide +kernel
theorem dX1_removeAt_43 : decode cX1_removeAt 43 = .ok (.isub, 1) := by decide +kernel
theorem dX1_removeAt_44 : decode cX1_removeAt 44 = .ok (.aload_n 0, 1) := by decide +kernel
theorem dX1_removeAt_45 : decode cX1_removeAt 45 = .ok (.getfield 11, 3) := by decide +kernel
theorem dX1_removeAt_48 : decode cX1_removeAt 48 = .ok (.iload_n 2, 1) := by decide +kernel
theorem dX1_removeAt_49 : decode cX1_removeAt 49 = .ok (.aaload, 1) := by decide +kernel
theorem dX1_removeAt_50 : decode cX1_removeAt 50 = .ok (.aastore, 1) := by decide +kernel
theorem dX1_removeAt_51 : decode cX1_removeAt 51 = .ok (.iinc 2 1, 3) := by decide +kernel
theorem dX1_removeAt_54 : decode cX1_removeAt 54 = .ok (.goto (-25), 3) := by decide +kernel
theorem dX1_removeAt_57 : decode cX1_removeAt 57 = .ok (.aload_n 0, 1) := by decide +kernel
theorem dX1_removeAt_58 : decode cX1_removeAt 58 = .ok (.dup, 1) := by decide +kernel
theorem dX1_removeAt_59 : decode cX1_removeAt 59 = .ok (.getfield 17, 3) := by decide +kernel
theorem dX1_removeAt_62 : decode cX1_removeAt 62 = .ok (.iconst 1, 1) := by decide +kernel
theorem dX1_removeAt_63 : decode cX1_removeAt 63 = .ok (.isub, 1) := by decide +kernel
theorem dX1_removeAt_64 : decode cX1_removeAt 64 = .ok (.putfield 17, 3) := by decide +kernel
theorem dX1_removeAt_67 : decode cX1_removeAt 67 = .ok (.aload_n 0, 1) := by decide +kernel
theorem dX1_removeAt_68 : decode cX1_removeAt 68 = .ok (.getfield 11, 3) := by decide +kernel
theorem dX1_removeAt_71 : decode cX1_removeAt 71 = .ok (.aload_n 0, 1) := by decide +kernel
theorem dX1_removeAt_72 : decode cX1_removeAt 72 = .ok (.getfield 17, 3) := by decide +kernel
theorem dX1_removeAt_75 : decode cX1_removeAt 75 = .ok (.aconst_null, 1) := by decide +kernel
theorem dX1_removeAt_76 : decode cX1_removeAt 76 = .ok (.aastore, 1) := by decide +kernel
theorem dX1_removeAt_77 : decode cX1_removeAt 77 = .ok (.return_, 1) := by decide +kernel
theorem dX1_placeOf_0 : decode cX1_placeOf 0 = .ok (.iconst 0, 1) := by decide +kernel
theorem dX1_placeOf_1 : decode cX1_placeOf 1 = .ok (.istore_n 2, 1) := by decide +kernel
theorem dX1_placeOf_2 : decode cX1_placeOf 2 = .ok (.iload_n 2, 1) := by decide +kernel
theorem dX1_placeOf_3 : decode cX1_placeOf 3 = .ok (.aload_n 0, 1) := by decide +kernel
theorem dX1_placeOf_4 : decode cX1_placeOf 4 = .ok (.getfield 17, 3) := by decide +kernel
theorem dX1_placeOf_7 : decode cX1_placeOf 7 = .ok (.if_icmp .ge 21, 3) := by decide +kernel
theorem dX1_placeOf_10 : decode cX1_placeOf 10 = .ok (.aload_n 0, 1) := by decide +kernel
theorem dX1_placeOf_11 : decode cX1_placeOf 11 = .ok (.getfield 11, 3) := by decide +kernel
theorem dX1_placeOf_14 : decode cX1_placeOf 14 = .ok (.iload_n 2, 1) := by decide +kernel
theorem dX1_placeOf_15 : decode cX1_placeOf 15 = .ok (.aaload, 1) := by decide +kernel
theorem dX1_placeOf_16 : decode cX1_placeOf 16 = .ok (.aload_n 1, 1) := by decide +kernel
theorem dX1_placeOf_17 : decode cX1_placeOf 17 = .ok (.if_acmp .ne 5, 3) := by decide +kernel
theorem dX1_placeOf_20 : decode cX1_placeOf 20 = .ok (.iload_n 2, 1) := by decide +kernel
theorem dX1_placeOf_21 : decode cX1_placeOf 21 = .ok (.ireturn, 1) := by decide +kernel
theorem dX1_placeOf_22 : decode cX1_placeOf 22 = .ok (.iinc 2 1, 3) := by decide +kernel
theorem dX1_placeOf_25 : decode cX1_placeOf 25 = .ok (.goto (-23), 3) := by decide +kernel
theorem dX1_placeOf_28 : decode cX1_placeOf 28 = .ok (.iconst (-1), 1) := by decide +kernel
theorem dX1_placeOf_29 : decode cX1_placeOf 29 = .ok (.ireturn, 1) := by decide +kernel
theorem dX1_countOf_0 : decode cX1_countOf 0 = .ok (.iconst 0, 1) := by decide +kernel
theorem dX1_countOf_1 : decode cX1_countOf 1 = .ok (.istore_n 2, 1) := by decide +kernel
theorem dX1_countOf_2 : decode cX1_countOf 2 = .ok (.iconst 0, 1) := by decide +kernel
theorem dX1_countOf_3 : decode cX1_countOf 3 = .ok (.istore_n 3, 1) := by decide +kernel
theorem dX1_countOf_4 : decode cX1_countOf 4 = .ok (.iload_n 3, 1) := by decide +kernel
theorem dX1_countOf_5 : decode cX1_countOf 5 = .ok (.aload_n 0, 1) := by decide +kernel
theorem dX1_countOf_6 : decode cX1_countOf 6 = .ok (.getfield 17, 3) := by decide +kernel
theorem dX1_countOf_9 : decode cX1_countOf 9 = .ok (.if_icmp .ge 30, 3) := by decide +kernel
theorem dX1_countOf_12 : decode cX1_countOf 12 = .ok (.iload_n 2, 1) := by decide +kernel
theorem dX1_countOf_13 : decode cX1_countOf 13 = .ok (.aload_n 0, 1) := by decide +kernel
theorem dX1_countOf_14 : decode cX1_countOf 14 = .ok (.getfield 11, 3) := by decide +kernel
theorem dX1_countOf_17 : decode cX1_countOf 17 = .ok (.iload_n 3, 1) := by decide +kernel
theorem dX1_countOf_18 : decode cX1_countOf 18 = .ok (.aaload, 1) := by decide +kernel
theorem dX1_countOf_19 : decode cX1_countOf 19 = .ok (.getfield 21, 3) := by decide +kernel
theorem dX1_countOf_22 : decode cX1_countOf 22 = .ok (.iload_n 1, 1) := by decide +kernel
theorem dX1_countOf_23 : decode cX1_countOf 23 = .ok (.if_icmp .ne 7, 3) := by decide +kernel
theorem dX1_countOf_26 : decode cX1_countOf 26 = .ok (.iconst 1, 1) := by decide +kernel
theorem dX1_countOf_27 : decode cX1_countOf 27 = .ok (.goto 4, 3) := by decide +kernel
theorem dX1_countOf_30 : decode cX1_countOf 30 = .ok (.iconst 0, 1) := by decide +kernel
theorem dX1_countOf_31 : decode cX1_countOf 31 = .ok (.iadd, 1) := by decide +kernel
theorem dX1_countOf_32 : decode cX1_countOf 32 = .ok (.istore_n 2, 1) := by decide +kernel
theorem dX1_countOf_33 : decode cX1_countOf 33 = .ok (.iinc 3 1, 3) := by decide +kernel
theorem dX1_countOf_36 : decode cX1_countOf 36 = .ok (.goto (-32), 3) := by decide +kernel
theorem dX1_countOf_39 : decode cX1_countOf 39 = .ok (.iload_n 2, 1) := by decide +kernel
theorem dX1_countOf_40 : decode cX1_countOf 40 = .ok (.ireturn, 1) := by decide +kernel
theorem dX2_init_0 : decode cX2_init 0 = .ok (.aload_n 0, 1) := by decide +kernel
theorem dX2_init_1 : decode cX2_init 1 = .ok (.invokespecial 3, 3) := by decide +kernel
theorem dX2_init_4 : decode cX2_init 4 = .ok (.aload_n 0, 1) := by decide +kernel
theorem dX2_init_5 : decode cX2_init 5 = .ok (.bipush 8, 2) := by decide +kernel
theorem dX2_init_7 : decode cX2_init 7 = .ok (.anewarray 9, 3) := by decide +kernel
theorem dX2_init_10 : decode cX2_init 10 = .ok (.putfield 11, 3) := by decide +kernel
theorem dX2_init_13 : decode cX2_init 13 = .ok (.aload_n 0, 1) := by decide +kernel
theorem dX2_init_14 : decode cX2_init 14 = .ok (.bipush 64, 2) := by decide +kernel
theorem dX2_init_16 : decode cX2_init 16 = .ok (.newarray .int, 2) := by decide +kernel
theorem dX2_init_18 : decode cX2_init 18 = .ok (.putfield 17, 3) := by decide +kernel
theorem dX2_init_21 : decode cX2_init 21 = .ok (.return_, 1) := by decide +kernel
theorem dX2_clear_0 : decode cX2_clear 0 = .ok (.aload_n 0, 1) := by decide +kernel
theorem dX2_clear_1 : decode cX2_clear 1 = .ok (.iconst 0, 1) := by decide +kernel
theorem dX2_clear_2 : decode cX2_clear 2 = .ok (.putfield 21, 3) := by decide +kernel
theorem dX2_clear_5 : decode cX2_clear 5 = .ok (.return_, 1) := by decide +kernel
theorem dX2_add_0 : decode cX2_add 0 = .ok (.aload_n 0, 1) := by decide +kernel
theorem dX2_add_1 : decode cX2_add 1 = .ok (.getfield 21, 3) := by decide +kernel
theorem dX2_add_4 : decode cX2_add 4 = .ok (.aload_n 0, 1) := by decide +kernel
theorem dX2_add_5 : decode cX2_add 5 = .ok (.getfield 11, 3) := by decide +kernel
theorem dX2_add_8 : decode cX2_add 8 = .ok (.arraylength, 1) := by decide +kernel
theorem dX2_add_9 : decode cX2_add 9 = .ok (.if_icmp .ge 23, 3) := by decide +kernel
theorem dX2_add_12 : decode cX2_add 12 = .ok (.aload_n 0, 1) := by decide +kernel
theorem dX2_add_13 : decode cX2_add 13 = .ok (.getfield 11, 3) := by decide +kernel
theorem dX2_add_16 : decode cX2_add 16 = .ok (.aload_n 0, 1) := by decide +kernel
theorem dX2_add_17 : decode cX2_add 17 = .ok (.getfield 21, 3) := by decide +kernel
theorem dX2_add_20 : decode cX2_add 20 = .ok (.aload_n 1, 1) := by decide +kernel
theorem dX2_add_21 : decode cX2_add 21 = .ok (.aastore, 1) := by decide +kernel
theorem dX2_add_22 : decode cX2_add 22 = .ok (.aload_n 0, 1) := by decide +kernel
theorem dX2_add_23 : decode cX2_add 23 = .ok (.dup, 1) := by decide +kernel
theorem dX2_add_24 : decode cX2_add 24 = .ok (.getfield 21, 3) := by decide +kernel
theorem dX2_add_27 : decode cX2_add 27 = .ok (.iconst 1, 1) := by decide +kernel
theorem dX2_add_28 : decode cX2_add 28 = .ok (.iadd, 1) := by decide +kernel
theorem dX2_add_29 : decode cX2_add 29 = .ok (.putfield 21, 3) := by decide +kernel
theorem dX2_add_32 : decode cX2_add 32 = .ok (.return_, 1) := by decide +kernel
theorem dX2_has_0 : decode cX2_has 0 = .ok (.iconst 0, 1) := by decide +kernel
theorem dX2_has_1 : decode cX2_has 1 = .ok (.istore_n 2, 1) := by decide +kernel
theorem dX2_has_2 : decode cX2_has 2 = .ok (.iload_n 2, 1) := by decide +kernel
theorem dX2_has_3 : decode cX2_has 3 = .ok (.aload_n 0, 1) := by decide +kernel
theorem dX2_has_4 : decode cX2_has 4 = .ok (.getfield 21, 3) := by decide +kernel
theorem dX2_has_7 : decode cX2_has 7 = .ok (.if_icmp .ge 21, 3) := by decide +kernel
theorem dX2_has_10 : decode cX2_has 10 = .ok (.aload_n 0, 1) := by decide +kernel
theorem dX2_has_11 : decode cX2_has 11 = .ok (.getfield 11, 3) := by decide +kernel
theorem dX2_has_14 : decode cX2_has 14 = .ok (.iload_n 2, 1) := by decide +kernel
theorem dX2_has_15 : decode cX2_has 15 = .ok (.aaload, 1) := by decide +kernel
theorem dX2_has_16 : decode cX2_has 16 = .ok (.aload_n 1, 1) := by decide +kernel
theorem dX2_has_17 : decode cX2_has 17 = .ok (.if_acmp .ne 5, 3) := by decide +kernel
theorem dX2_has_20 : decode cX2_has 20 = .ok (.iconst 1, 1) := by decide +kernel
theorem dX2_has_21 : decode cX2_has 21 = .ok (.ireturn, 1) := by decide +kernel
theorem dX2_has_22 : decode cX2_has 22 = .ok (.iinc 2 1, 3) := by decide +kernel
theorem dX2_has_25 : decode cX2_has 25 = .ok (.goto (-23), 3) := by decide +kernel
theorem dX2_has_28 : decode cX2_has 28 = .ok (.iconst 0, 1) := by decide +kernel
theorem dX2_has_29 : decode cX2_has 29 = .ok (.ireturn, 1) := by decide +kernel
theorem dX2_firstRule_0 : decode cX2_firstRule 0 = .ok (.iconst 0, 1) := by decide +kernel
theorem dX2_firstRule_1 : decode cX2_firstRule 1 = .ok (.istore_n 1, 1) := by decide +kernel
theorem dX2_firstRule_2 : decode cX2_firstRule 2 = .ok (.iload_n 1, 1) := by decide +kernel
theorem dX2_firstRule_3 : decode cX2_firstRule 3 = .ok (.bipush 16, 2) := by decide +kernel
theorem dX2_firstRule_5 : decode cX2_firstRule 5 = .ok (.if_icmp .ge 23, 3) := by decide +kernel
theorem dX2_firstRule_8 : decode cX2_firstRule 8 = .ok (.aload_n 0, 1) := by decide +kernel
theorem dX2_firstRule_9 : decode cX2_firstRule 9 = .ok (.iload_n 1, 1) := by decide +kernel
theorem dX2_firstRule_10 : decode cX2_firstRule 10 = .ok (.iconst (-1), 1) := by decide +kernel
theorem dX2_firstRule_11 : decode cX2_firstRule 11 = .ok (.invokevirtual 25, 3) := by decide +kernel
theorem dX2_firstRule_14 : decode cX2_firstRule 14 = .ok (.ifCond .eq 8, 3) := by decide +kernel
theorem dX2_firstRule_17 : decode cX2_firstRule 17 = .ok (.iload_n 1, 1) := by decide +kernel
theorem dX2_firstRule_18 : decode cX2_firstRule 18 = .ok (.invokestatic 29, 3) := by decide +kernel
theorem dX2_firstRule_21 : decode cX2_firstRule 21 = .ok (.ireturn, 1) := by decide +kernel
theorem dX2_firstRule_22 : decode cX2_firstRule 22 = .ok (.iinc 1 1, 3) := by decide +kernel
theorem dX2_firstRule_25 : decode cX2_firstRule 25 = .ok (.goto (-23), 3) := by decide +kernel
theorem dX2_firstRule_28 : decode cX2_firstRule 28 = .ok (.iconst 0, 1) := by decide +kernel
theorem dX2_firstRule_29 : decode cX2_firstRule 29 = .ok (.istore_n 1, 1) := by decide +kernel
theorem dX2_firstRule_30 : decode cX2_firstRule 30 = .ok (.iload_n 1, 1) := by decide +kernel
theorem dX2_firstRule_31 : decode cX2_firstRule 31 = .ok (.bipush 16, 2) := by decide +kernel
theorem dX2_firstRule_33 : decode cX2_firstRule 33 = .ok (.if_icmp .ge 45, 3) := by decide +kernel
theorem dX2_firstRule_36 : decode cX2_firstRule 36 = .ok (.iconst 0, 1) := by decide +kernel
theorem dX2_firstRule_37 : decode cX2_firstRule 37 = .ok (.istore_n 2, 1) := by decide +kernel
theorem dX2_firstRule_38 : decode cX2_firstRule 38 = .ok (.iload_n 2, 1) := by decide +kernel
theorem dX2_firstRule_39 : decode cX2_firstRule 39 = .ok (.bipush 16, 2) := by decide +kernel
theorem dX2_firstRule_41 : decode cX2_firstRule 41 = .ok (.if_icmp .ge 31, 3) := by decide +kernel
theorem dX2_firstRule_44 : decode cX2_firstRule 44 = .ok (.aload_n 0, 1) := by decide +kernel
theorem dX2_firstRule_45 : decode cX2_firstRule 45 = .ok (.iload_n 1, 1) := by decide +kernel
theorem dX2_firstRule_46 : decode cX2_firstRule 46 = .ok (.iload_n 2, 1) := by decide +kernel
theorem dX2_firstRule_47 : decode cX2_firstRule 47 = .ok (.invokevirtual 25, 3) := by decide +kernel
theorem dX2_firstRule_50 : decode cX2_firstRule 50 = .ok (.ifCond .eq 16, 3) := by decide +kernel
theorem dX2_firstRule_53 : decode cX2_firstRule 53 = .ok (.bipush 100, 2) := by decide +kernel
theorem dX2_firstRule_55 : decode cX2_firstRule 55 = .ok (.iload_n 1, 1) := by decide +kernel
theorem dX2_firstRule_56 : decode cX2_firstRule 56 = .ok (.invokestatic 29, 3) := by decide +kernel
theorem dX2_firstRule_59 : decode cX2_firstRule 59 = .ok (.imul, 1) := by decide +kernel
theorem dX2_firstRule_60 : decode cX2_firstRule 60 = .ok (.iload_n 2, 1) := by decide +kernel
theorem dX2_firstRule_61 : decode cX2_firstRule 61 = .ok (.invokestatic 29, 3) := by decide +kernel
theorem dX2_firstRule_64 : decode cX2_firstRule 64 = .ok (.iadd, 1) := by decide +kernel
theorem dX2_firstRule_65 : decode cX2_firstRule 65 = .ok (.ireturn, 1) := by decide +kernel
theorem dX2_firstRule_66 : decode cX2_firstRule 66 = .ok (.iinc 2 1, 3) := by decide +kernel
theorem dX2_firstRule_69 : decode cX2_firstRule 69 = .ok (.goto (-31), 3) := by decide +kernel
theorem dX2_firstRule_72 : decode cX2_firstRule 72 = .ok (.iinc 1 1, 3) := by decide +kernel
theorem dX2_firstRule_75 : decode cX2_firstRule 75 = .ok (.goto (-45), 3) := by decide +kernel
theorem dX2_firstRule_78 : decode cX2_firstRule 78 = .ok (.bipush (-4), 2) := by decide +kernel
theorem dX2_firstRule_80 : decode cX2_firstRule 80 = .ok (.ireturn, 1) := by decide +kernel
theorem dX2_digits_0 : decode cX2_digits 0 = .ok (.bipush 10, 2) := by decide +kernel
theorem dX2_digits_2 : decode cX2_digits 2 = .ok (.iload_n 0, 1) := by decide +kernel
theorem dX2_digits_3 : decode cX2_digits 3 = .ok (.invokestatic 33, 3) := by decide +kernel
theorem dX2_digits_6 : decode cX2_digits 6 = .ok (.imul, 1) := by decide +kernel
theorem dX2_digits_7 : decode cX2_digits 7 = .ok (.iload_n 0, 1) := by decide +kernel
theorem dX2_digits_8 : decode cX2_digits 8 = .ok (.invokestatic 36, 3) := by decide +kernel
theorem dX2_digits_11 : decode cX2_digits 11 = .ok (.iadd, 1) := by decide +kernel
theorem dX2_digits_12 : decode cX2_digits 12 = .ok (.iconst 1, 1) := by decide +kernel
theorem dX2_digits_13 : decode cX2_digits 13 = .ok (.iadd, 1) := by decide +kernel
theorem dX2_digits_14 : decode cX2_digits 14 = .ok (.ireturn, 1) := by decide +kernel
theorem dX2_letterOf_0 : decode cX2_letterOf 0 = .ok (.iload_n 0, 1) := by decide +kernel
theorem dX2_letterOf_1 : decode cX2_letterOf 1 = .ok (.iconst 4, 1) := by decide +kernel
theorem dX2_letterOf_2 : decode cX2_letterOf 2 = .ok (.idiv, 1) := by decide +kernel
theorem dX2_letterOf_3 : decode cX2_letterOf 3 = .ok (.ireturn, 1) := by decide +kernel
theorem dX2_numberOf_0 : decode cX2_numberOf 0 = .ok (.iload_n 0, 1) := by decide +kernel
theorem dX2_numberOf_1 : decode cX2_numberOf 1 = .ok (.iconst 4, 1) := by decide +kernel
theorem dX2_numberOf_2 : decode cX2_numberOf 2 = .ok (.irem, 1) := by decide +kernel
theorem dX2_numberOf_3 : decode cX2_numberOf 3 = .ok (.iconst 1, 1) := by decide +kernel
theorem dX2_numberOf_4 : decode cX2_numberOf 4 = .ok (.iadd, 1) := by decide +kernel
theorem dX2_numberOf_5 : decode cX2_numberOf 5 = .ok (.ireturn, 1) := by decide +kernel
theorem dX2_fits_0 : decode cX2_fits 0 = .ok (.iconst 1, 1) := by decide +kernel
theorem dX2_fits_1 : decode cX2_fits 1 = .ok (.istore_n 3, 1) := by decide +kernel
theorem dX2_fits_2 : decode cX2_fits 2 = .ok (.iload_n 3, 1) := by decide +kernel
theorem dX2_fits_3 : decode cX2_fits 3 = .ok (.aload_n 0, 1) := by decide +kernel
theorem dX2_fits_4 : decode cX2_fits 4 = .ok (.getfield 21, 3) := by decide +kernel
theorem dX2_fits_7 : decode cX2_fits 7 = .ok (.if_icmp .ge 98, 3) := by decide +kernel
theorem dX2_fits_10 : decode cX2_fits 10 = .ok (.aload_n 0, 1) := by decide +kernel
theorem dX2_fits_11 : decode cX2_fits 11 = .ok (.getfield 11, 3) := by decide +kernel
theorem dX2_fits_14 : decode cX2_fits 14 = .ok (.iload_n 3, 1) := by decide +kernel
theorem dX2_fits_15 : decode cX2_fits 15 = .ok (.iconst 1, 1) := by decide +kernel
theorem dX2_fits_16 : decode cX2_fits 16 = .ok (.isub, 1) := by decide +kernel
theorem dX2_fits_17 : decode cX2_fits 17 = .ok (.aaload, 1) := by decide +kernel
theorem dX2_fits_18 : decode cX2_fits 18 = .ok (.iload_n 1, 1) := by decide +kernel
theorem dX2_fits_19 : decode cX2_fits 19 = .ok (.invokestatic 39, 3) := by decide +kernel
theorem dX2_fits_22 : decode cX2_fits 22 = .ok (.aload_n 0, 1) := by decide +kernel
theorem dX2_fits_23 : decode cX2_fits 23 = .ok (.getfield 11, 3) := by decide +kernel
theorem dX2_fits_26 : decode cX2_fits 26 = .ok (.iload_n 3, 1) := by decide +kernel
theorem dX2_fits_27 : decode cX2_fits 27 = .ok (.iconst 1, 1) := by decide +kernel
theorem dX2_fits_28 : decode cX2_fits 28 = .ok (.isub, 1) := by decide +kernel
theorem dX2_fits_29 : decode cX2_fits 29 = .ok (.aaload, 1) := by decide +kernel
theorem dX2_fits_30 : decode cX2_fits 30 = .ok (.iload_n 2, 1) := by decide +kernel
theorem dX2_fits_31 : decode cX2_fits 31 = .ok (.invokestatic 39, 3) := by decide +kernel
theorem dX2_fits_34 : decode cX2_fits 34 = .ok (.iadd, 1) := by decide +kernel
theorem dX2_fits_35 : decode cX2_fits 35 = .ok (.istore 4, 2) := by decide +kernel
theorem dX2_fits_37 : decode cX2_fits 37 = .ok (.aload_n 0, 1) := by decide +kernel
theorem dX2_fits_38 : decode cX2_fits 38 = .ok (.getfield 11, 3) := by decide +kernel
theorem dX2_fits_41 : decode cX2_fits 41 = .ok (.iload_n 3, 1) := by decide +kernel
theorem dX2_fits_42 : decode cX2_fits 42 = .ok (.aaload, 1) := by decide +kernel
theorem dX2_fits_43 : decode cX2_fits 43 = .ok (.iload_n 1, 1) := by decide +kernel
theorem dX2_fits_44 : decode cX2_fits 44 = .ok (.invokestatic 39, 3) := by decide +kernel
theorem dX2_fits_47 : decode cX2_fits 47 = .ok (.aload_n 0, 1) := by decide +kernel
theorem dX2_fits_48 : decode cX2_fits 48 = .ok (.getfield 11, 3) := by decide +kernel
theorem dX2_fits_51 : decode cX2_fits 51 = .ok (.iload_n 3, 1) := by decide +kernel
theorem dX2_fits_52 : decode cX2_fits 52 = .ok (.aaload, 1) := by decide +kernel
theorem dX2_fits_53 : decode cX2_fits 53 = .ok (.iload_n 2, 1) := by decide +kernel
theorem dX2_fits_54 : decode cX2_fits 54 = .ok (.invokestatic 39, 3) := by decide +kernel
theorem dX2_fits_57 : decode cX2_fits 57 = .ok (.iadd, 1) := by decide +kernel
theorem dX2_fits_58 : decode cX2_fits 58 = .ok (.istore 5, 2) := by decide +kernel
theorem dX2_fits_60 : decode cX2_fits 60 = .ok (.iload 4, 2) := by decide +kernel
theorem dX2_fits_62 : decode cX2_fits 62 = .ok (.iload 5, 2) := by decide +kernel
theorem dX2_fits_64 : decode cX2_fits 64 = .ok (.if_icmp .gt 33, 3) := by decide +kernel
theorem dX2_fits_67 : decode cX2_fits 67 = .ok (.iload 4, 2) := by decide +kernel
theorem dX2_fits_69 : decode cX2_fits 69 = .ok (.iload 5, 2) := by decide +kernel
theorem dX2_fits_71 : decode cX2_fits 71 = .ok (.if_icmp .ne 28, 3) := by decide +kernel
theorem dX2_fits_74 : decode cX2_fits 74 = .ok (.aload_n 0, 1) := by decide +kernel
theorem dX2_fits_75 : decode cX2_fits 75 = .ok (.getfield 11, 3) := by decide +kernel
theorem dX2_fits_78 : decode cX2_fits 78 = .ok (.iload_n 3, 1) := by decide +kernel
theorem dX2_fits_79 : decode cX2_fits 79 = .ok (.iconst 1, 1) := by decide +kernel
theorem dX2_fits_80 : decode cX2_fits 80 = .ok (.isub, 1) := by decide +kernel
theorem dX2_fits_81 : decode cX2_fits 81 = .ok (.aaload, 1) := by decide +kernel
theorem dX2_fits_82 : decode cX2_fits 82 = .ok (.getfield 43, 3) := by decide +kernel
theorem dX2_fits_85 : decode cX2_fits 85 = .ok (.aload_n 0, 1) := by decide +kernel
theorem dX2_fits_86 : decode cX2_fits 86 = .ok (.getfield 11, 3) := by decide +kernel
theorem dX2_fits_89 : decode cX2_fits 89 = .ok (.iload_n 3, 1) := by decide +kernel
theorem dX2_fits_90 : decode cX2_fits 90 = .ok (.aaload, 1) := by decide +kernel
theorem dX2_fits_91 : decode cX2_fits 91 = .ok (.getfield 43, 3) := by decide +kernel
theorem dX2_fits_94 : decode cX2_fits 94 = .ok (.if_icmp .le 5, 3) := by decide +kernel
theorem dX2_fits_97 : decode cX2_fits 97 = .ok (.iconst 0, 1) := by decide +kernel
theorem dX2_fits_98 : decode cX2_fits 98 = .ok (.ireturn, 1) := by decide +kernel
theorem dX2_fits_99 : decode cX2_fits 99 = .ok (.iinc 3 1, 3) := by decide +kernel
theorem dX2_fits_102 : decode cX2_fits 102 = .ok (.goto (-100), 3) := by decide +kernel
theorem dX2_fits_105 : decode cX2_fits 105 = .ok (.iconst 1, 1) := by decide +kernel
theorem dX2_fits_106 : decode cX2_fits 106 = .ok (.ireturn, 1) := by decide +kernel
theorem dX2_valueOf_0 : decode cX2_valueOf 0 = .ok (.iload_n 1, 1) := by decide +kernel
theorem dX2_valueOf_1 : decode cX2_valueOf 1 = .ok (.ifCond .ge 7, 3) := by decide +kernel
theorem dX2_valueOf_4 : decode cX2_valueOf 4 = .ok (.iconst 0, 1) := by decide +kernel
theorem dX2_valueOf_5 : decode cX2_valueOf 5 = .ok (.goto 16, 3) := by decide +kernel
theorem dX2_valueOf_8 : decode cX2_valueOf 8 = .ok (.iload_n 1, 1) := by decide +kernel
theorem dX2_valueOf_9 : decode cX2_valueOf 9 = .ok (.invokestatic 33, 3) := by decide +kernel
theorem dX2_valueOf_12 : decode cX2_valueOf 12 = .ok (.aload_n 0, 1) := by decide +kernel
theorem dX2_valueOf_13 : decode cX2_valueOf 13 = .ok (.iload_n 1, 1) := by decide +kernel
theorem dX2_valueOf_14 : decode cX2_valueOf 14 = .ok (.invokestatic 36, 3) := by decide +kernel
theorem dX2_valueOf_17 : decode cX2_valueOf 17 = .ok (.invokevirtual 46, 3) := by decide +kernel
theorem dX2_valueOf_20 : decode cX2_valueOf 20 = .ok (.imul, 1) := by decide +kernel
theorem dX2_valueOf_21 : decode cX2_valueOf 21 = .ok (.ireturn, 1) := by decide +kernel
theorem dX2_sortByNumber_0 : decode cX2_sortByNumber 0 = .ok (.iconst 1, 1) := by decide +kernel
theorem dX2_sortByNumber_1 : decode cX2_sortByNumber 1 = .ok (.istore_n 1, 1) := by decide +kernel
theorem dX2_sortByNumber_2 : decode cX2_sortByNumber 2 = .ok (.iload_n 1, 1) := by decide +kernel
theorem dX2_sortByNumber_3 : decode cX2_sortByNumber 3 = .ok (.aload_n 0, 1) := by decide +kernel
theorem dX2_sortByNumber_4 : decode cX2_sortByNumber 4 = .ok (.getfield 21, 3) := by decide +kernel
theorem dX2_sortByNumber_7 : decode cX2_sortByNumber 7 = .ok (.if_icmp .ge 67, 3) := by decide +kernel
theorem dX2_sortByNumber_10 : decode cX2_sortByNumber 10 = .ok (.aload_n 0, 1) := by decide +kernel
theorem dX2_sortByNumber_11 : decode cX2_sortByNumber 11 = .ok (.getfield 11, 3) := by decide +kernel
theorem dX2_sortByNumber_14 : decode cX2_sortByNumber 14 = .ok (.iload_n 1, 1) := by decide +kernel
theorem dX2_sortByNumber_15 : decode cX2_sortByNumber 15 = .ok (.aaload, 1) := by decide +kernel
theorem dX2_sortByNumber_16 : decode cX2_sortByNumber 16 = .ok (.astore_n 2, 1) := by decide +kernel
theorem dX2_sortByNumber_17 : decode cX2_sortByNumber 17 = .ok (.iload_n 1, 1) := by decide +kernel
theorem dX2_sortByNumber_18 : decode cX2_sortByNumber 18 = .ok (.istore_n 3, 1) := by decide +kernel
theorem dX2_sortByNumber_19 : decode cX2_sortByNumber 19 = .ok (.iload_n 3, 1) := by decide +kernel
theorem dX2_sortByNumber_20 : decode cX2_sortByNumber 20 = .ok (.ifCond .le 41, 3) := by decide +kernel
theorem dX2_sortByNumber_23 : decode cX2_sortByNumber 23 = .ok (.aload_n 0, 1) := by decide +kernel
theorem dX2_sortByNumber_24 : decode cX2_sortByNumber 24 = .ok (.getfield 11, 3) := by decide +kernel
theorem dX2_sortByNumber_27 : decode cX2_sortByNumber 27 = .ok (.iload_n 3, 1) := by decide +kernel
theorem dX2_sortByNumber_28 : decode cX2_sortByNumber 28 = .ok (.iconst 1, 1) := by decide +kernel
theorem dX2_sortByNumber_29 : decode cX2_sortByNumber 29 = .ok (.isub, 1) := by decide +kernel
theorem dX2_sortByNumber_30 : decode cX2_sortByNumber 30 = .ok (.aaload, 1) := by decide +kernel
theorem dX2_sortByNumber_31 : decode cX2_sortByNumber 31 = .ok (.getfield 43, 3) := by decide +kernel
theorem dX2_sortByNumber_34 : decode cX2_sortByNumber 34 = .ok (.aload_n 2, 1) := by decide +kernel
theorem dX2_sortByNumber_35 : decode cX2_sortByNumber 35 = .ok (.getfield 43, 3) := by decide +kernel
theorem dX2_sortByNumber_38 : decode cX2_sortByNumber 38 = .ok (.if_icmp .le 23, 3) := by decide +kernel
theorem dX2_sortByNumber_41 : decode cX2_sortByNumber 41 = .ok (.aload_n 0, 1) := by decide +kernel
theorem dX2_sortByNumber_42 : decode cX2_sortByNumber 42 = .ok (.getfield 11, 3) := by decide +kernel
theorem dX2_sortByNumber_45 : decode cX2_sortByNumber 45 = .ok (.iload_n 3, 1) := by decide +kernel
theorem dX2_sortByNumber_46 : decode cX2_sortByNumber 46 = .ok (.aload_n 0, 1) := by decide +kernel
theorem dX2_sortByNumber_47 : decode cX2_sortByNumber 47 = .ok (.getfield 11, 3) := by decide +kernel
theorem dX2_sortByNumber_50 : decode cX2_sortByNumber 50 = .ok (.iload_n 3, 1) := by decide +kernel
theorem dX2_sortByNumber_51 : decode cX2_sortByNumber 51 = .ok (.iconst 1, 1) := by decide +kernel
theorem dX2_sortByNumber_52 : decode cX2_sortByNumber 52 = .ok (.isub, 1) := by decide +kernel
theorem dX2_sortByNumber_53 : decode cX2_sortByNumber 53 = .ok (.aaload, 1) := by decide +kernel
theorem dX2_sortByNumber_54 : decode cX2_sortByNumber 54 = .ok (.aastore, 1) := by decide +kernel
theorem dX2_sortByNumber_55 : decode cX2_sortByNumber 55 = .ok (.iinc 3 (-1), 3) := by decide +kernel
theorem dX2_sortByNumber_58 : decode cX2_sortByNumber 58 = .ok (.goto (-39), 3) := by decide +kernel
theorem dX2_sortByNumber_61 : decode cX2_sortByNumber 61 = .ok (.aload_n 0, 1) := by decide +kernel
theorem dX2_sortByNumber_62 : decode cX2_sortByNumber 62 = .ok (.getfield 11, 3) := by decide +kernel
theorem dX2_sortByNumber_65 : decode cX2_sortByNumber 65 = .ok (.iload_n 3, 1) := by decide +kernel
theorem dX2_sortByNumber_66 : decode cX2_sortByNumber 66 = .ok (.aload_n 2, 1) := by decide +kernel
theorem dX2_sortByNumber_67 : decode cX2_sortByNumber 67 = .ok (.aastore, 1) := by decide +kernel
theorem dX2_sortByNumber_68 : decode cX2_sortByNumber 68 = .ok (.iinc 1 1, 3) := by decide +kernel
theorem dX2_sortByNumber_71 : decode cX2_sortByNumber 71 = .ok (.goto (-69), 3) := by decide +kernel
theorem dX2_sortByNumber_74 : decode cX2_sortByNumber 74 = .ok (.return_, 1) := by decide +kernel
theorem dX2_leastLate_0 : decode cX2_leastLate 0 = .ok (.aload_n 0, 1) := by decide +kernel
theorem dX2_leastLate_1 : decode cX2_leastLate 1 = .ok (.getfield 21, 3) := by decide +kernel
theorem dX2_leastLate_4 : decode cX2_leastLate 4 = .ok (.bipush 6, 2) := by decide +kernel
theorem dX2_leastLate_6 : decode cX2_leastLate 6 = .ok (.if_icmp .le 7, 3) := by decide +kernel
theorem dX2_leastLate_9 : decode cX2_leastLate 9 = .ok (.iconst 0, 1) := by decide +kernel
theorem dX2_leastLate_10 : decode cX2_leastLate 10 = .ok (.goto 11, 3) := by decide +kernel
theorem dX2_leastLate_13 : decode cX2_leastLate 13 = .ok (.iconst 1, 1) := by decide +kernel
theorem dX2_leastLate_14 : decode cX2_leastLate 14 = .ok (.aload_n 0, 1) := by decide +kernel
theorem dX2_leastLate_15 : decode cX2_leastLate 15 = .ok (.getfield 21, 3) := by decide +kernel
theorem dX2_leastLate_18 : decode cX2_leastLate 18 = .ok (.ishl, 1) := by decide +kernel
theorem dX2_leastLate_19 : decode cX2_leastLate 19 = .ok (.iconst 1, 1) := by decide +kernel
theorem dX2_leastLate_20 : decode cX2_leastLate 20 = .ok (.isub, 1) := by decide +kernel
theorem dX2_leastLate_21 : decode cX2_leastLate 21 = .ok (.istore_n 2, 1) := by decide +kernel
theorem dX2_leastLate_22 : decode cX2_leastLate 22 = .ok (.aload_n 0, 1) := by decide +kernel
theorem dX2_leastLate_23 : decode cX2_leastLate 23 = .ok (.getfield 17, 3) := by decide +kernel
theorem dX2_leastLate_26 : decode cX2_leastLate 26 = .ok (.iload_n 2, 1) := by decide +kernel
theorem dX2_leastLate_27 : decode cX2_leastLate 27 = .ok (.iconst 0, 1) := by decide +kernel
theorem dX2_leastLate_28 : decode cX2_leastLate 28 = .ok (.iastore, 1) := by decide +kernel
theorem dX2_leastLate_29 : decode cX2_leastLate 29 = .ok (.iload_n 2, 1) := by decide +kernel
theorem dX2_leastLate_30 : decode cX2_leastLate 30 = .ok (.iconst 1, 1) := by decide +kernel
theorem dX2_leastLate_31 : decode cX2_leastLate 31 = .ok (.isub, 1) := by decide +kernel
theorem dX2_leastLate_32 : decode cX2_leastLate 32 = .ok (.istore_n 3, 1) := by decide +kernel
theorem dX2_leastLate_33 : decode cX2_leastLate 33 = .ok (.iload_n 3, 1) := by decide +kernel
theorem dX2_leastLate_34 : decode cX2_leastLate 34 = .ok (.ifCond .lt 84, 3) := by decide +kernel
theorem dX2_leastLate_37 : decode cX2_leastLate 37 = .ok (.iload_n 1, 1) := by decide +kernel
theorem dX2_leastLate_38 : decode cX2_leastLate 38 = .ok (.aload_n 0, 1) := by decide +kernel
theorem dX2_leastLate_39 : decode cX2_leastLate 39 = .ok (.iload_n 3, 1) := by decide +kernel
theorem dX2_leastLate_40 : decode cX2_leastLate 40 = .ok (.invokevirtual 49, 3) := by decide +kernel
theorem dX2_leastLate_43 : decode cX2_leastLate 43 = .ok (.iadd, 1) := by decide +kernel
theorem dX2_leastLate_44 : decode cX2_leastLate 44 = .ok (.istore 4, 2) := by decide +kernel
theorem dX2_leastLate_46 : decode cX2_leastLate 46 = .ok (.ldc 52, 2) := by decide +kernel
theorem dX2_leastLate_48 : decode cX2_leastLate 48 = .ok (.istore 5, 2) := by decide +kernel
theorem dX2_leastLate_50 : decode cX2_leastLate 50 = .ok (.iconst 0, 1) := by decide +kernel
theorem dX2_leastLate_51 : decode cX2_leastLate 51 = .ok (.istore 6, 2) := by decide +kernel
theorem dX2_leastLate_53 : decode cX2_leastLate 53 = .ok (.iload 6, 2) := by decide +kernel
theorem dX2_leastLate_55 : decode cX2_leastLate 55 = .ok (.aload_n 0, 1) := by decide +kernel
theorem dX2_leastLate_56 : decode cX2_leastLate 56 = .ok (.getfield 21, 3) := by decide +kernel
theorem dX2_leastLate_59 : decode cX2_leastLate 59 = .ok (.if_icmp .ge 45, 3) := by decide +kernel
theorem dX2_leastLate_62 : decode cX2_leastLate 62 = .ok (.iload_n 3, 1) := by decide +kernel
theorem dX2_leastLate_63 : decode cX2_leastLate 63 = .ok (.iload 6, 2) := by decide +kernel
theorem dX2_leastLate_65 : decode cX2_leastLate 65 = .ok (.ishr, 1) := by decide +kernel
theorem dX2_leastLate_66 : decode cX2_leastLate 66 = .ok (.iconst 1, 1) := by decide +kernel
theorem dX2_leastLate_67 : decode cX2_leastLate 67 = .ok (.iand, 1) := by decide +kernel
theorem dX2_leastLate_68 : decode cX2_leastLate 68 = .ok (.ifCond .ne 30, 3) := by decide +kernel
theorem dX2_leastLate_71 : decode cX2_leastLate 71 = .ok (.iload 5, 2) := by decide +kernel
theorem dX2_leastLate_73 : decode cX2_leastLate 73 = .ok (.aload_n 0, 1) := by decide +kernel
theorem dX2_leastLate_74 : decode cX2_leastLate 74 = .ok (.iload 4, 2) := by decide +kernel
theorem dX2_leastLate_76 : decode cX2_leastLate 76 = .ok (.iload 6, 2) := by decide +kernel
theorem dX2_leastLate_78 : decode cX2_leastLate 78 = .ok (.invokevirtual 53, 3) := by decide +kernel
theorem dX2_leastLate_81 : decode cX2_leastLate 81 = .ok (.aload_n 0, 1) := by decide +kernel
theorem dX2_leastLate_82 : decode cX2_leastLate 82 = .ok (.getfield 17, 3) := by decide +kernel
theorem dX2_leastLate_85 : decode cX2_leastLate 85 = .ok (.iload_n 3, 1) := by decide +kernel
theorem dX2_leastLate_86 : decode cX2_leastLate 86 = .ok (.iconst 1, 1) := by decide +kernel
theorem dX2_leastLate_87 : decode cX2_leastLate 87 = .ok (.iload 6, 2) := by decide +kernel
theorem dX2_leastLate_89 : decode cX2_leastLate 89 = .ok (.ishl, 1) := by decide +kernel
theorem dX2_leastLate_90 : decode cX2_leastLate 90 = .ok (.ior, 1) := by decide +kernel
theorem dX2_leastLate_91 : decode cX2_leastLate 91 = .ok (.iaload, 1) := by decide +kernel
theorem dX2_leastLate_92 : decode cX2_leastLate 92 = .ok (.iadd, 1) := by decide +kernel
theorem dX2_leastLate_93 : decode cX2_leastLate 93 = .ok (.invokestatic 57, 3) := by decide +kernel
theorem dX2_leastLate_96 : decode cX2_leastLate 96 = .ok (.istore 5, 2) := by decide +kernel
theorem dX2_leastLate_98 : decode cX2_leastLate 98 = .ok (.iinc 6 1, 3) := by decide +kernel
theorem dX2_leastLate_101 : decode cX2_leastLate 101 = .ok (.goto (-48), 3) := by decide +kernel
theorem dX2_leastLate_104 : decode cX2_leastLate 104 = .ok (.aload_n 0, 1) := by decide +kernel
theorem dX2_leastLate_105 : decode cX2_leastLate 105 = .ok (.getfield 17, 3) := by decide +kernel
theorem dX2_leastLate_108 : decode cX2_leastLate 108 = .ok (.iload_n 3, 1) := by decide +kernel
theorem dX2_leastLate_109 : decode cX2_leastLate 109 = .ok (.iload 5, 2) := by decide +kernel
theorem dX2_leastLate_111 : decode cX2_leastLate 111 = .ok (.iastore, 1) := by decide +kernel
theorem dX2_leastLate_112 : decode cX2_leastLate 112 = .ok (.iinc 3 (-1), 3) := by decide +kernel
theorem dX2_leastLate_115 : decode cX2_leastLate 115 = .ok (.goto (-82), 3) := by decide +kernel
theorem dX2_leastLate_118 : decode cX2_leastLate 118 = .ok (.aload_n 0, 1) := by decide +kernel
theorem dX2_leastLate_119 : decode cX2_leastLate 119 = .ok (.getfield 17, 3) := by decide +kernel
theorem dX2_leastLate_122 : decode cX2_leastLate 122 = .ok (.iconst 0, 1) := by decide +kernel
theorem dX2_leastLate_123 : decode cX2_leastLate 123 = .ok (.iaload, 1) := by decide +kernel
theorem dX2_leastLate_124 : decode cX2_leastLate 124 = .ok (.ireturn, 1) := by decide +kernel
theorem dX2_lengthOf_0 : decode cX2_lengthOf 0 = .ok (.iconst 0, 1) := by decide +kernel
theorem dX2_lengthOf_1 : decode cX2_lengthOf 1 = .ok (.istore_n 2, 1) := by decide +kernel
theorem dX2_lengthOf_2 : decode cX2_lengthOf 2 = .ok (.iconst 0, 1) := by decide +kernel
theorem dX2_lengthOf_3 : decode cX2_lengthOf 3 = .ok (.istore_n 3, 1) := by decide +kernel
theorem dX2_lengthOf_4 : decode cX2_lengthOf 4 = .ok (.iload_n 3, 1) := by decide +kernel
theorem dX2_lengthOf_5 : decode cX2_lengthOf 5 = .ok (.aload_n 0, 1) := by decide +kernel
theorem dX2_lengthOf_6 : decode cX2_lengthOf 6 = .ok (.getfield 21, 3) := by decide +kernel
theorem dX2_lengthOf_9 : decode cX2_lengthOf 9 = .ok (.if_icmp .ge 33, 3) := by decide +kernel
theorem dX2_lengthOf_12 : decode cX2_lengthOf 12 = .ok (.iload_n 2, 1) := by decide +kernel
theorem dX2_lengthOf_13 : decode cX2_lengthOf 13 = .ok (.iload_n 1, 1) := by decide +kernel
theorem dX2_lengthOf_14 : decode cX2_lengthOf 14 = .ok (.iload_n 3, 1) := by decide +kernel
theorem dX2_lengthOf_15 : decode cX2_lengthOf 15 = .ok (.ishr, 1) := by decide +kernel
theorem dX2_lengthOf_16 : decode cX2_lengthOf 16 = .ok (.iconst 1, 1) := by decide +kernel
theorem dX2_lengthOf_17 : decode cX2_lengthOf 17 = .ok (.iand, 1) := by decide +kernel
theorem dX2_lengthOf_18 : decode cX2_lengthOf 18 = .ok (.ifCond .ne 7, 3) := by decide +kernel
theorem dX2_lengthOf_21 : decode cX2_lengthOf 21 = .ok (.iconst 0, 1) := by decide +kernel
theorem dX2_lengthOf_22 : decode cX2_lengthOf 22 = .ok (.goto 12, 3) := by decide +kernel
theorem dX2_lengthOf_25 : decode cX2_lengthOf 25 = .ok (.aload_n 0, 1) := by decide +kernel
theorem dX2_lengthOf_26 : decode cX2_lengthOf 26 = .ok (.getfield 11, 3) := by decide +kernel
theorem dX2_lengthOf_29 : decode cX2_lengthOf 29 = .ok (.iload_n 3, 1) := by decide +kernel
theorem dX2_lengthOf_30 : decode cX2_lengthOf 30 = .ok (.aaload, 1) := by decide +kernel
theorem dX2_lengthOf_31 : decode cX2_lengthOf 31 = .ok (.getfield 62, 3) := by decide +kernel
theorem dX2_lengthOf_34 : decode cX2_lengthOf 34 = .ok (.iadd, 1) := by decide +kernel
theorem dX2_lengthOf_35 : decode cX2_lengthOf 35 = .ok (.istore_n 2, 1) := by decide +kernel
theorem dX2_lengthOf_36 : decode cX2_lengthOf 36 = .ok (.iinc 3 1, 3) := by decide +kernel
theorem dX2_lengthOf_39 : decode cX2_lengthOf 39 = .ok (.goto (-35), 3) := by decide +kernel
theorem dX2_lengthOf_42 : decode cX2_lengthOf 42 = .ok (.iload_n 2, 1) := by decide +kernel
theorem dX2_lengthOf_43 : decode cX2_lengthOf 43 = .ok (.ireturn, 1) := by decide +kernel
theorem dX2_lateFrom_0 : decode cX2_lateFrom 0 = .ok (.iconst 0, 1) := by decide +kernel
theorem dX2_lateFrom_1 : decode cX2_lateFrom 1 = .ok (.aload_n 0, 1) := by decide +kernel
theorem dX2_lateFrom_2 : decode cX2_lateFrom 2 = .ok (.getfield 11, 3) := by decide +kernel
theorem dX2_lateFrom_5 : decode cX2_lateFrom 5 = .ok (.iload_n 2, 1) := by decide +kernel
theorem dX2_lateFrom_6 : decode cX2_lateFrom 6 = .ok (.aaload, 1) := by decide +kernel
theorem dX2_lateFrom_7 : decode cX2_lateFrom 7 = .ok (.iload_n 1, 1) := by decide +kernel
theorem dX2_lateFrom_8 : decode cX2_lateFrom 8 = .ok (.aload_n 0, 1) := by decide +kernel
theorem dX2_lateFrom_9 : decode cX2_lateFrom 9 = .ok (.getfield 11, 3) := by decide +kernel
theorem dX2_lateFrom_12 : decode cX2_lateFrom 12 = .ok (.iload_n 2, 1) := by decide +kernel
theorem dX2_lateFrom_13 : decode cX2_lateFrom 13 = .ok (.aaload, 1) := by decide +kernel
theorem dX2_lateFrom_14 : decode cX2_lateFrom 14 = .ok (.getfield 62, 3) := by decide +kernel
theorem dX2_lateFrom_17 : decode cX2_lateFrom 17 = .ok (.iadd, 1) := by decide +kernel
theorem dX2_lateFrom_18 : decode cX2_lateFrom 18 = .ok (.invokevirtual 65, 3) := by decide +kernel
theorem dX2_lateFrom_21 : decode cX2_lateFrom 21 = .ok (.invokestatic 68, 3) := by decide +kernel
theorem dX2_lateFrom_24 : decode cX2_lateFrom 24 = .ok (.ireturn, 1) := by decide +kernel
theorem dX2_bestAt_0 : decode cX2_bestAt 0 = .ok (.iconst 0, 1) := by decide +kernel
theorem dX2_bestAt_1 : decode cX2_bestAt 1 = .ok (.istore_n 3, 1) := by decide +kernel
theorem dX2_bestAt_2 : decode cX2_bestAt 2 = .ok (.iconst (-1), 1) := by decide +kernel
theorem dX2_bestAt_3 : decode cX2_bestAt 3 = .ok (.istore 4, 2) := by decide +kernel
theorem dX2_bestAt_5 : decode cX2_bestAt 5 = .ok (.iconst 0, 1) := by decide +kernel
theorem dX2_bestAt_6 : decode cX2_bestAt 6 = .ok (.istore 5, 2) := by decide +kernel
theorem dX2_bestAt_8 : decode cX2_bestAt 8 = .ok (.iload 5, 2) := by decide +kernel
theorem dX2_bestAt_10 : decode cX2_bestAt 10 = .ok (.iload_n 1, 1) := by decide +kernel
theorem dX2_bestAt_11 : decode cX2_bestAt 11 = .ok (.if_icmp .gt 50, 3) := by decide +kernel
theorem dX2_bestAt_14 : decode cX2_bestAt 14 = .ok (.iload 5, 2) := by decide +kernel
theorem dX2_bestAt_16 : decode cX2_bestAt 16 = .ok (.aload_n 0, 1) := by decide +kernel
theorem dX2_bestAt_17 : decode cX2_bestAt 17 = .ok (.getfield 21, 3) := by decide +kernel
theorem dX2_bestAt_20 : decode cX2_bestAt 20 = .ok (.if_icmp .ge 41, 3) := by decide +kernel
theorem dX2_bestAt_23 : decode cX2_bestAt 23 = .ok (.aload_n 0, 1) := by decide +kernel
theorem dX2_bestAt_24 : decode cX2_bestAt 24 = .ok (.getfield 21, 3) := by decide +kernel
theorem dX2_bestAt_27 : decode cX2_bestAt 27 = .ok (.bipush 6, 2) := by decide +kernel
theorem dX2_bestAt_29 : decode cX2_bestAt 29 = .ok (.if_icmp .gt 32, 3) := by decide +kernel
theorem dX2_bestAt_32 : decode cX2_bestAt 32 = .ok (.aload_n 0, 1) := by decide +kernel
theorem dX2_bestAt_33 : decode cX2_bestAt 33 = .ok (.iload_n 3, 1) := by decide +kernel
theorem dX2_bestAt_34 : decode cX2_bestAt 34 = .ok (.iload_n 2, 1) := by decide +kernel
theorem dX2_bestAt_35 : decode cX2_bestAt 35 = .ok (.invokevirtual 71, 3) := by decide +kernel
theorem dX2_bestAt_38 : decode cX2_bestAt 38 = .ok (.istore 4, 2) := by decide +kernel
theorem dX2_bestAt_40 : decode cX2_bestAt 40 = .ok (.iload 4, 2) := by decide +kernel
theorem dX2_bestAt_42 : decode cX2_bestAt 42 = .ok (.ifCond .ge 6, 3) := by decide +kernel
theorem dX2_bestAt_45 : decode cX2_bestAt 45 = .ok (.bipush (-4), 2) := by decide +kernel
theorem dX2_bestAt_47 : decode cX2_bestAt 47 = .ok (.ireturn, 1) := by decide +kernel
theorem dX2_bestAt_48 : decode cX2_bestAt 48 = .ok (.iload_n 3, 1) := by decide +kernel
theorem dX2_bestAt_49 : decode cX2_bestAt 49 = .ok (.iconst 1, 1) := by decide +kernel
theorem dX2_bestAt_50 : decode cX2_bestAt 50 = .ok (.iload 4, 2) := by decide +kernel
theorem dX2_bestAt_52 : decode cX2_bestAt 52 = .ok (.ishl, 1) := by decide +kernel
theorem dX2_bestAt_53 : decode cX2_bestAt 53 = .ok (.ior, 1) := by decide +kernel
theorem dX2_bestAt_54 : decode cX2_bestAt 54 = .ok (.istore_n 3, 1) := by decide +kernel
theorem dX2_bestAt_55 : decode cX2_bestAt 55 = .ok (.iinc 5 1, 3) := by decide +kernel
theorem dX2_bestAt_58 : decode cX2_bestAt 58 = .ok (.goto (-50), 3) := by decide +kernel
theorem dX2_bestAt_61 : decode cX2_bestAt 61 = .ok (.iload 4, 2) := by decide +kernel
theorem dX2_bestAt_63 : decode cX2_bestAt 63 = .ok (.ifCond .ge 8, 3) := by decide +kernel
theorem dX2_bestAt_66 : decode cX2_bestAt 66 = .ok (.bipush (-4), 2) := by decide +kernel
theorem dX2_bestAt_68 : decode cX2_bestAt 68 = .ok (.goto 13, 3) := by decide +kernel
theorem dX2_bestAt_71 : decode cX2_bestAt 71 = .ok (.aload_n 0, 1) := by decide +kernel
theorem dX2_bestAt_72 : decode cX2_bestAt 72 = .ok (.getfield 11, 3) := by decide +kernel
theorem dX2_bestAt_75 : decode cX2_bestAt 75 = .ok (.iload 4, 2) := by decide +kernel
theorem dX2_bestAt_77 : decode cX2_bestAt 77 = .ok (.aaload, 1) := by decide +kernel
theorem dX2_bestAt_78 : decode cX2_bestAt 78 = .ok (.getfield 43, 3) := by decide +kernel
theorem dX2_bestAt_81 : decode cX2_bestAt 81 = .ok (.ireturn, 1) := by decide +kernel
theorem dX2_bestBehind_0 : decode cX2_bestBehind 0 = .ok (.iload_n 2, 1) := by decide +kernel
theorem dX2_bestBehind_1 : decode cX2_bestBehind 1 = .ok (.aload_n 0, 1) := by decide +kernel
theorem dX2_bestBehind_2 : decode cX2_bestBehind 2 = .ok (.iload_n 1, 1) := by decide +kernel
theorem dX2_bestBehind_3 : decode cX2_bestBehind 3 = .ok (.invokevirtual 49, 3) := by decide +kernel
theorem dX2_bestBehind_6 : decode cX2_bestBehind 6 = .ok (.iadd, 1) := by decide +kernel
theorem dX2_bestBehind_7 : decode cX2_bestBehind 7 = .ok (.istore_n 3, 1) := by decide +kernel
theorem dX2_bestBehind_8 : decode cX2_bestBehind 8 = .ok (.iconst 0, 1) := by decide +kernel
theorem dX2_bestBehind_9 : decode cX2_bestBehind 9 = .ok (.istore 4, 2) := by decide +kernel
theorem dX2_bestBehind_11 : decode cX2_bestBehind 11 = .ok (.iload 4, 2) := by decide +kernel
theorem dX2_bestBehind_13 : decode cX2_bestBehind 13 = .ok (.aload_n 0, 1) := by decide +kernel
theorem dX2_bestBehind_14 : decode cX2_bestBehind 14 = .ok (.getfield 21, 3) := by decide +kernel
theorem dX2_bestBehind_17 : decode cX2_bestBehind 17 = .ok (.if_icmp .ge 49, 3) := by decide +kernel
theorem dX2_bestBehind_20 : decode cX2_bestBehind 20 = .ok (.iload_n 1, 1) := by decide +kernel
theorem dX2_bestBehind_21 : decode cX2_bestBehind 21 = .ok (.iload 4, 2) := by decide +kernel
theorem dX2_bestBehind_23 : decode cX2_bestBehind 23 = .ok (.ishr, 1) := by decide +kernel
theorem dX2_bestBehind_24 : decode cX2_bestBehind 24 = .ok (.iconst 1, 1) := by decide +kernel
theorem dX2_bestBehind_25 : decode cX2_bestBehind 25 = .ok (.iand, 1) := by decide +kernel
theorem dX2_bestBehind_26 : decode cX2_bestBehind 26 = .ok (.ifCond .ne 34, 3) := by decide +kernel
theorem dX2_bestBehind_29 : decode cX2_bestBehind 29 = .ok (.aload_n 0, 1) := by decide +kernel
theorem dX2_bestBehind_30 : decode cX2_bestBehind 30 = .ok (.iload_n 3, 1) := by decide +kernel
theorem dX2_bestBehind_31 : decode cX2_bestBehind 31 = .ok (.iload 4, 2) := by decide +kernel
theorem dX2_bestBehind_33 : decode cX2_bestBehind 33 = .ok (.invokevirtual 53, 3) := by decide +kernel
theorem dX2_bestBehind_36 : decode cX2_bestBehind 36 = .ok (.aload_n 0, 1) := by decide +kernel
theorem dX2_bestBehind_37 : decode cX2_bestBehind 37 = .ok (.getfield 17, 3) := by decide +kernel
theorem dX2_bestBehind_40 : decode cX2_bestBehind 40 = .ok (.iload_n 1, 1) := by decide +kernel
theorem dX2_bestBehind_41 : decode cX2_bestBehind 41 = .ok (.iconst 1, 1) := by decide +kernel
theorem dX2_bestBehind_42 : decode cX2_bestBehind 42 = .ok (.iload 4, 2) := by decide +kernel
theorem dX2_bestBehind_44 : decode cX2_bestBehind 44 = .ok (.ishl, 1) := by decide +kernel
theorem dX2_bestBehind_45 : decode cX2_bestBehind 45 = .ok (.ior, 1) := by decide +kernel
theorem dX2_bestBehind_46 : decode cX2_bestBehind 46 = .ok (.iaload, 1) := by decide +kernel
theorem dX2_bestBehind_47 : decode cX2_bestBehind 47 = .ok (.iadd, 1) := by decide +kernel
theorem dX2_bestBehind_48 : decode cX2_bestBehind 48 = .ok (.aload_n 0, 1) := by decide +kernel
theorem dX2_bestBehind_49 : decode cX2_bestBehind 49 = .ok (.getfield 17, 3) := by decide +kernel
theorem dX2_bestBehind_52 : decode cX2_bestBehind 52 = .ok (.iload_n 1, 1) := by decide +kernel
theorem dX2_bestBehind_53 : decode cX2_bestBehind 53 = .ok (.iaload, 1) := by decide +kernel
theorem dX2_bestBehind_54 : decode cX2_bestBehind 54 = .ok (.if_icmp .ne 6, 3) := by decide +kernel
theorem dX2_bestBehind_57 : decode cX2_bestBehind 57 = .ok (.iload 4, 2) := by decide +kernel
theorem dX2_bestBehind_59 : decode cX2_bestBehind 59 = .ok (.ireturn, 1) := by decide +kernel
theorem dX2_bestBehind_60 : decode cX2_bestBehind 60 = .ok (.iinc 4 1, 3) := by decide +kernel
theorem dX2_bestBehind_63 : decode cX2_bestBehind 63 = .ok (.goto (-52), 3) := by decide +kernel
theorem dX2_bestBehind_66 : decode cX2_bestBehind 66 = .ok (.iconst (-1), 1) := by decide +kernel
theorem dX2_bestBehind_67 : decode cX2_bestBehind 67 = .ok (.ireturn, 1) := by decide +kernel
theorem dX3_init_0 : decode cX3_init 0 = .ok (.aload_n 0, 1) := by decide +kernel
theorem dX3_init_1 : decode cX3_init 1 = .ok (.invokespecial 3, 3) := by decide +kernel
theorem dX3_init_4 : decode cX3_init 4 = .ok (.aload_n 0, 1) := by decide +kernel
theorem dX3_init_5 : decode cX3_init 5 = .ok (.sipush 1000, 3) := by decide +kernel
theorem dX3_init_8 : decode cX3_init 8 = .ok (.anewarray 9, 3) := by decide +kernel
theorem dX3_init_11 : decode cX3_init 11 = .ok (.putfield 11, 3) := by decide +kernel
theorem dX3_init_14 : decode cX3_init 14 = .ok (.aload_n 0, 1) := by decide +kernel
theorem dX3_init_15 : decode cX3_init 15 = .ok (.bipush 24, 2) := by decide +kernel
theorem dX3_init_17 : decode cX3_init 17 = .ok (.putfield 17, 3) := by decide +kernel
theorem dX3_init_20 : decode cX3_init 20 = .ok (.aload_n 0, 1) := by decide +kernel
theorem dX3_init_21 : decode cX3_init 21 = .ok (.aload_n 1, 1) := by decide +kernel
theorem dX3_init_22 : decode cX3_init 22 = .ok (.putfield 21, 3) := by decide +kernel
theorem dX3_init_25 : decode cX3_init 25 = .ok (.return_, 1) := by decide +kernel
theorem dX3_changeRoom_0 : decode cX3_changeRoom 0 = .ok (.aload_n 0, 1) := by decide +kernel
theorem dX3_changeRoom_1 : decode cX3_changeRoom 1 = .ok (.getfield 17, 3) := by decide +kernel
theorem dX3_changeRoom_4 : decode cX3_changeRoom 4 = .ok (.istore_n 2, 1) := by decide +kernel
theorem dX3_changeRoom_5 : decode cX3_changeRoom 5 = .ok (.aload_n 0, 1) := by decide +kernel
theorem dX3_changeRoom_6 : decode cX3_changeRoom 6 = .ok (.iload_n 1, 1) := by decide +kernel
theorem dX3_changeRoom_7 : decode cX3_changeRoom 7 = .ok (.putfield 17, 3) := by decide +kernel
theorem dX3_changeRoom_10 : decode cX3_changeRoom 10 = .ok (.iload_n 2, 1) := by decide +kernel
theorem dX3_changeRoom_11 : decode cX3_changeRoom 11 = .ok (.ireturn, 1) := by decide +kernel
theorem dX3_changeDrops_0 : decode cX3_changeDrops 0 = .ok (.aload_n 0, 1) := by decide +kernel
theorem dX3_changeDrops_1 : decode cX3_changeDrops 1 = .ok (.getfield 25, 3) := by decide +kernel
theorem dX3_changeDrops_4 : decode cX3_changeDrops 4 = .ok (.istore_n 2, 1) := by decide +kernel
theorem dX3_changeDrops_5 : decode cX3_changeDrops 5 = .ok (.aload_n 0, 1) := by decide +kernel
theorem dX3_changeDrops_6 : decode cX3_changeDrops 6 = .ok (.iload_n 1, 1) := by decide +kernel
theorem dX3_changeDrops_7 : decode cX3_changeDrops 7 = .ok (.putfield 25, 3) := by decide +kernel
theorem dX3_changeDrops_10 : decode cX3_changeDrops 10 = .ok (.iload_n 2, 1) := by decide +kernel
theorem dX3_changeDrops_11 : decode cX3_changeDrops 11 = .ok (.ireturn, 1) := by decide +kernel
theorem dX3_letIn_0 : decode cX3_letIn 0 = .ok (.aload_n 0, 1) := by decide +kernel
theorem dX3_letIn_1 : decode cX3_letIn 1 = .ok (.getfield 21, 3) := by decide +kernel
theorem dX3_letIn_4 : decode cX3_letIn 4 = .ok (.getfield 28, 3) := by decide +kernel
theorem dX3_letIn_7 : decode cX3_letIn 7 = .ok (.getfield 34, 3) := by decide +kernel
theorem dX3_letIn_10 : decode cX3_letIn 10 = .ok (.aload_n 0, 1) := by decide +kernel
theorem dX3_letIn_11 : decode cX3_letIn 11 = .ok (.getfield 17, 3) := by decide +kernel
theorem dX3_letIn_14 : decode cX3_letIn 14 = .ok (.if_icmp .lt 7, 3) := by decide +kernel
theorem dX3_letIn_17 : decode cX3_letIn 17 = .ok (.iconst 1, 1) := by decide +kernel
theorem dX3_letIn_18 : decode cX3_letIn 18 = .ok (.goto 4, 3) := by decide +kernel
theorem dX3_letIn_21 : decode cX3_letIn 21 = .ok (.iconst 0, 1) := by decide +kernel
theorem dX3_letIn_22 : decode cX3_letIn 22 = .ok (.istore_n 2, 1) := by decide +kernel
theorem dX3_letIn_23 : decode cX3_letIn 23 = .ok (.aload_n 0, 1) := by decide +kernel
theorem dX3_letIn_24 : decode cX3_letIn 24 = .ok (.getfield 21, 3) := by decide +kernel
theorem dX3_letIn_27 : decode cX3_letIn 27 = .ok (.aload_n 1, 1) := by decide +kernel
theorem dX3_letIn_28 : decode cX3_letIn 28 = .ok (.invokevirtual 39, 3) := by decide +kernel
theorem dX3_letIn_31 : decode cX3_letIn 31 = .ok (.iload_n 2, 1) := by decide +kernel
theorem dX3_letIn_32 : decode cX3_letIn 32 = .ok (.ifCond .eq 17, 3) := by decide +kernel
theorem dX3_letIn_35 : decode cX3_letIn 35 = .ok (.aload_n 0, 1) := by decide +kernel
theorem dX3_letIn_36 : decode cX3_letIn 36 = .ok (.getfield 21, 3) := by decide +kernel
theorem dX3_letIn_39 : decode cX3_letIn 39 = .ok (.aload_n 0, 1) := by decide +kernel
theorem dX3_letIn_40 : decode cX3_letIn 40 = .ok (.getfield 25, 3) := by decide +kernel
theorem dX3_letIn_43 : decode cX3_letIn 43 = .ok (.invokevirtual 43, 3) := by decide +kernel
theorem dX3_letIn_46 : decode cX3_letIn 46 = .ok (.goto 4, 3) := by decide +kernel
theorem dX3_letIn_49 : decode cX3_letIn 49 = .ok (.aconst_null, 1) := by decide +kernel
theorem dX3_letIn_50 : decode cX3_letIn 50 = .ok (.astore_n 3, 1) := by decide +kernel
theorem dX3_letIn_51 : decode cX3_letIn 51 = .ok (.aload_n 3, 1) := by decide +kernel
theorem dX3_letIn_52 : decode cX3_letIn 52 = .ok (.ifnull 26, 3) := by decide +kernel
theorem dX3_letIn_55 : decode cX3_letIn 55 = .ok (.aload_n 0, 1) := by decide +kernel
theorem dX3_letIn_56 : decode cX3_letIn 56 = .ok (.getfield 21, 3) := by decide +kernel
theorem dX3_letIn_59 : decode cX3_letIn 59 = .ok (.aload_n 3, 1) := by decide +kernel
theorem dX3_letIn_60 : decode cX3_letIn 60 = .ok (.invokevirtual 47, 3) := by decide +kernel
theorem dX3_letIn_63 : decode cX3_letIn 63 = .ok (.aload_n 3, 1) := by decide +kernel
theorem dX3_letIn_64 : decode cX3_letIn 64 = .ok (.iconst 3, 1) := by decide +kernel
theorem dX3_letIn_65 : decode cX3_letIn 65 = .ok (.putfield 50, 3) := by decide +kernel
theorem dX3_letIn_68 : decode cX3_letIn 68 = .ok (.aload_n 0, 1) := by decide +kernel
theorem dX3_letIn_69 : decode cX3_letIn 69 = .ok (.dup, 1) := by decide +kernel
theorem dX3_letIn_70 : decode cX3_letIn 70 = .ok (.getfield 53, 3) := by decide +kernel
theorem dX3_letIn_73 : decode cX3_letIn 73 = .ok (.iconst 1, 1) := by decide +kernel
theorem dX3_letIn_74 : decode cX3_letIn 74 = .ok (.iadd, 1) := by decide +kernel
theorem dX3_letIn_75 : decode cX3_letIn 75 = .ok (.putfield 53, 3) := by decide +kernel
theorem dX3_letIn_78 : decode cX3_letIn 78 = .ok (.return_, 1) := by decide +kernel
theorem dX3_goOn_0 : decode cX3_goOn 0 = .ok (.aload_n 0, 1) := by decide +kernel
theorem dX3_goOn_1 : decode cX3_goOn 1 = .ok (.getfield 56, 3) := by decide +kernel
theorem dX3_goOn_4 : decode cX3_goOn 4 = .ok (.ifnonnull 7, 3) := by decide +kernel
theorem dX3_goOn_7 : decode cX3_goOn 7 = .ok (.aload_n 0, 1) := by decide +kernel
theorem dX3_goOn_8 : decode cX3_goOn 8 = .ok (.invokevirtual 60, 3) := by decide +kernel
theorem dX3_goOn_11 : decode cX3_goOn 11 = .ok (.aload_n 0, 1) := by decide +kernel
theorem dX3_goOn_12 : decode cX3_goOn 12 = .ok (.getfield 56, 3) := by decide +kernel
theorem dX3_goOn_15 : decode cX3_goOn 15 = .ok (.ifnonnull 14, 3) := by decide +kernel
theorem dX3_goOn_18 : decode cX3_goOn 18 = .ok (.aload_n 0, 1) := by decide +kernel
theorem dX3_goOn_19 : decode cX3_goOn 19 = .ok (.getfield 21, 3) := by decide +kernel
theorem dX3_goOn_22 : decode cX3_goOn 22 = .ok (.iload_n 1, 1) := by decide +kernel
theorem dX3_goOn_23 : decode cX3_goOn 23 = .ok (.invokevirtual 63, 3) := by decide +kernel
theorem dX3_goOn_26 : decode cX3_goOn 26 = .ok (.goto 18, 3) := by decide +kernel
theorem dX3_goOn_29 : decode cX3_goOn 29 = .ok (.aload_n 0, 1) := by decide +kernel
theorem dX3_goOn_30 : decode cX3_goOn 30 = .ok (.getfield 56, 3) := by decide +kernel
theorem dX3_goOn_33 : decode cX3_goOn 33 = .ok (.getfield 67, 3) := by decide +kernel
theorem dX3_goOn_36 : decode cX3_goOn 36 = .ok (.aload_n 0, 1) := by decide +kernel
theorem dX3_goOn_37 : decode cX3_goOn 37 = .ok (.getfield 56, 3) := by decide +kernel
theorem dX3_goOn_40 : decode cX3_goOn 40 = .ok (.getfield 70, 3) := by decide +kernel
theorem dX3_goOn_43 : decode cX3_goOn 43 = .ok (.iadd, 1) := by decide +kernel
theorem dX3_goOn_44 : decode cX3_goOn 44 = .ok (.istore_n 2, 1) := by decide +kernel
theorem dX3_goOn_45 : decode cX3_goOn 45 = .ok (.aload_n 0, 1) := by decide +kernel
theorem dX3_goOn_46 : decode cX3_goOn 46 = .ok (.iload_n 1, 1) := by decide +kernel
theorem dX3_goOn_47 : decode cX3_goOn 47 = .ok (.aload_n 0, 1) := by decide +kernel
theorem dX3_goOn_48 : decode cX3_goOn 48 = .ok (.getfield 73, 3) := by decide +kernel
theorem dX3_goOn_51 : decode cX3_goOn 51 = .ok (.iconst 1, 1) := by decide +kernel
theorem dX3_goOn_52 : decode cX3_goOn 52 = .ok (.iadd, 1) := by decide +kernel
theorem dX3_goOn_53 : decode cX3_goOn 53 = .ok (.iload_n 2, 1) := by decide +kernel
theorem dX3_goOn_54 : decode cX3_goOn 54 = .ok (.invokestatic 76, 3) := by decide +kernel
theorem dX3_goOn_57 : decode cX3_goOn 57 = .ok (.invokestatic 82, 3) := by decide +kernel
theorem dX3_goOn_60 : decode cX3_goOn 60 = .ok (.putfield 73, 3) := by decide +kernel
theorem dX3_goOn_63 : decode cX3_goOn 63 = .ok (.aload_n 0, 1) := by decide +kernel
theorem dX3_goOn_64 : decode cX3_goOn 64 = .ok (.getfield 56, 3) := by decide +kernel
theorem dX3_goOn_67 : decode cX3_goOn 67 = .ok (.ifnull 18, 3) := by decide +kernel
theorem dX3_goOn_70 : decode cX3_goOn 70 = .ok (.aload_n 0, 1) := by decide +kernel
theorem dX3_goOn_71 : decode cX3_goOn 71 = .ok (.getfield 73, 3) := by decide +kernel
theorem dX3_goOn_74 : decode cX3_goOn 74 = .ok (.iload_n 2, 1) := by decide +kernel
theorem dX3_goOn_75 : decode cX3_goOn 75 = .ok (.if_icmp .lt 10, 3) := by decide +kernel
theorem dX3_goOn_78 : decode cX3_goOn 78 = .ok (.aload_n 0, 1) := by decide +kernel
theorem dX3_goOn_79 : decode cX3_goOn 79 = .ok (.invokevirtual 85, 3) := by decide +kernel
theorem dX3_goOn_82 : decode cX3_goOn 82 = .ok (.goto 4, 3) := by decide +kernel
theorem dX3_goOn_85 : decode cX3_goOn 85 = .ok (.aconst_null, 1) := by decide +kernel
theorem dX3_goOn_86 : decode cX3_goOn 86 = .ok (.areturn, 1) := by decide +kernel
theorem dX3_startSending_0 : decode cX3_startSending 0 = .ok (.aload_n 0, 1) := by decide +kernel
theorem dX3_startSending_1 : decode cX3_startSending 1 = .ok (.getfield 89, 3) := by decide +kernel
theorem dX3_startSending_4 : decode cX3_startSending 4 = .ok (.aload_n 0, 1) := by decide +kernel
theorem dX3_startSending_5 : decode cX3_startSending 5 = .ok (.getfield 11, 3) := by decide +kernel
theorem dX3_startSending_8 : decode cX3_startSending 8 = .ok (.arraylength, 1) := by decide +kernel
theorem dX3_startSending_9 : decode cX3_startSending 9 = .ok (.if_icmp .ge 17, 3) := by decide +kernel
theorem dX3_startSending_12 : decode cX3_startSending 12 = .ok (.aload_n 0, 1) := by decide +kernel
theorem dX3_startSending_13 : decode cX3_startSending 13 = .ok (.getfield 21, 3) := by decide +kernel
theorem dX3_startSending_16 : decode cX3_startSending 16 = .ok (.aload_n 0, 1) := by decide +kernel
theorem dX3_startSending_17 : decode cX3_startSending 17 = .ok (.getfield 73, 3) := by decide +kernel
theorem dX3_startSending_20 : decode cX3_startSending 20 = .ok (.invokevirtual 92, 3) := by decide +kernel
theorem dX3_startSending_23 : decode cX3_startSending 23 = .ok (.goto 4, 3) := by decide +kernel
theorem dX3_startSending_26 : decode cX3_startSending 26 = .ok (.aconst_null, 1) := by decide +kernel
theorem dX3_startSending_27 : decode cX3_startSending 27 = .ok (.astore_n 1, 1) := by decide +kernel
theorem dX3_startSending_28 : decode cX3_startSending 28 = .ok (.aload_n 1, 1) := by decide +kernel
theorem dX3_startSending_29 : decode cX3_startSending 29 = .ok (.ifnonnull 4, 3) := by decide +kernel
theorem dX3_startSending_32 : decode cX3_startSending 32 = .ok (.return_, 1) := by decide +kernel
theorem dX3_startSending_33 : decode cX3_startSending 33 = .ok (.aload_n 1, 1) := by decide +kernel
theorem dX3_startSending_34 : decode cX3_startSending 34 = .ok (.iconst 1, 1) := by decide +kernel
theorem dX3_startSending_35 : decode cX3_startSending 35 = .ok (.putfield 50, 3) := by decide +kernel
theorem dX3_startSending_38 : decode cX3_startSending 38 = .ok (.aload_n 1, 1) := by decide +kernel
theorem dX3_startSending_39 : decode cX3_startSending 39 = .ok (.aload_n 0, 1) := by decide +kernel
theorem dX3_startSending_40 : decode cX3_startSending 40 = .ok (.getfield 73, 3) := by decide +kernel
theorem dX3_startSending_43 : decode cX3_startSending 43 = .ok (.putfield 67, 3) := by decide +kernel
theorem dX3_startSending_46 : decode cX3_startSending 46 = .ok (.aload_n 1, 1) := by decide +kernel
theorem dX3_startSending_47 : decode cX3_startSending 47 = .ok (.aload_n 0, 1) := by decide +kernel
theorem dX3_startSending_48 : decode cX3_startSending 48 = .ok (.getfield 89, 3) := by decide +kernel
theorem dX3_startSending_51 : decode cX3_startSending 51 = .ok (.putfield 95, 3) := by decide +kernel
theorem dX3_startSending_54 : decode cX3_startSending 54 = .ok (.aload_n 0, 1) := by decide +kernel
theorem dX3_startSending_55 : decode cX3_startSending 55 = .ok (.getfield 11, 3) := by decide +kernel
theorem dX3_startSending_58 : decode cX3_startSending 58 = .ok (.aload_n 0, 1) := by decide +kernel
theorem dX3_startSending_59 : decode cX3_startSending 59 = .ok (.getfield 89, 3) := by decide +kernel
theorem dX3_startSending_62 : decode cX3_startSending 62 = .ok (.aload_n 1, 1) := by decide +kernel
theorem dX3_startSending_63 : decode cX3_startSending 63 = .ok (.aastore, 1) := by decide +kernel
theorem dX3_startSending_64 : decode cX3_startSending 64 = .ok (.aload_n 0, 1) := by decide +kernel
theorem dX3_startSending_65 : decode cX3_startSending 65 = .ok (.dup, 1) := by decide +kernel
theorem dX3_startSending_66 : decode cX3_startSending 66 = .ok (.getfield 89, 3) := by decide +kernel
theorem dX3_startSending_69 : decode cX3_startSending 69 = .ok (.iconst 1, 1) := by decide +kernel
theorem dX3_startSending_70 : decode cX3_startSending 70 = .ok (.iadd, 1) := by decide +kernel
theorem dX3_startSending_71 : decode cX3_startSending 71 = .ok (.putfield 89, 3) := by decide +kernel
theorem dX3_startSending_74 : decode cX3_startSending 74 = .ok (.aload_n 0, 1) := by decide +kernel
theorem dX3_startSending_75 : decode cX3_startSending 75 = .ok (.aload_n 1, 1) := by decide +kernel
theorem dX3_startSending_76 : decode cX3_startSending 76 = .ok (.putfield 56, 3) := by decide +kernel
theorem dX3_startSending_79 : decode cX3_startSending 79 = .ok (.return_, 1) := by decide +kernel
theorem dX3_finishSending_0 : decode cX3_finishSending 0 = .ok (.aload_n 0, 1) := by decide +kernel
theorem dX3_finishSending_1 : decode cX3_finishSending 1 = .ok (.getfield 56, 3) := by decide +kernel
theorem dX3_finishSending_4 : decode cX3_finishSending 4 = .ok (.astore_n 1, 1) := by decide +kernel
theorem dX3_finishSending_5 : decode cX3_finishSending 5 = .ok (.aload_n 1, 1) := by decide +kernel
theorem dX3_finishSending_6 : decode cX3_finishSending 6 = .ok (.ifnull 26, 3) := by decide +kernel
theorem dX3_finishSending_9 : decode cX3_finishSending 9 = .ok (.aload_n 1, 1) := by decide +kernel
theorem dX3_finishSending_10 : decode cX3_finishSending 10 = .ok (.iconst 2, 1) := by decide +kernel
theorem dX3_finishSending_11 : decode cX3_finishSending 11 = .ok (.putfield 50, 3) := by decide +kernel
theorem dX3_finishSending_14 : decode cX3_finishSending 14 = .ok (.aload_n 0, 1) := by decide +kernel
theorem dX3_finishSending_15 : decode cX3_finishSending 15 = .ok (.aload_n 1, 1) := by decide +kernel
theorem dX3_finishSending_16 : decode cX3_finishSending 16 = .ok (.getfield 98, 3) := by decide +kernel
theorem dX3_finishSending_19 : decode cX3_finishSending 19 = .ok (.putfield 101, 3) := by decide +kernel
theorem dX3_finishSending_22 : decode cX3_finishSending 22 = .ok (.aload_n 0, 1) := by decide +kernel
theorem dX3_finishSending_23 : decode cX3_finishSending 23 = .ok (.dup, 1) := by decide +kernel
theorem dX3_finishSending_24 : decode cX3_finishSending 24 = .ok (.getfield 104, 3) := by decide +kernel
theorem dX3_finishSending_27 : decode cX3_finishSending 27 = .ok (.iconst 1, 1) := by decide +kernel
theorem dX3_finishSending_28 : decode cX3_finishSending 28 = .ok (.iadd, 1) := by decide +kernel
theorem dX3_finishSending_29 : decode cX3_finishSending 29 = .ok (.putfield 104, 3) := by decide +kernel
theorem dX3_finishSending_32 : decode cX3_finishSending 32 = .ok (.aload_n 0, 1) := by decide +kernel
theorem dX3_finishSending_33 : decode cX3_finishSending 33 = .ok (.aconst_null, 1) := by decide +kernel
theorem dX3_finishSending_34 : decode cX3_finishSending 34 = .ok (.putfield 56, 3) := by decide +kernel
theorem dX3_finishSending_37 : decode cX3_finishSending 37 = .ok (.aload_n 1, 1) := by decide +kernel
theorem dX3_finishSending_38 : decode cX3_finishSending 38 = .ok (.areturn, 1) := by decide +kernel
theorem dX3_turnAt_0 : decode cX3_turnAt 0 = .ok (.iload_n 1, 1) := by decide +kernel
theorem dX3_turnAt_1 : decode cX3_turnAt 1 = .ok (.ifCond .lt 20, 3) := by decide +kernel
theorem dX3_turnAt_4 : decode cX3_turnAt 4 = .ok (.iload_n 1, 1) := by decide +kernel
theorem dX3_turnAt_5 : decode cX3_turnAt 5 = .ok (.aload_n 0, 1) := by decide +kernel
theorem dX3_turnAt_6 : decode cX3_turnAt 6 = .ok (.getfield 89, 3) := by decide +kernel
theorem dX3_turnAt_9 : decode cX3_turnAt 9 = .ok (.if_icmp .ge 12, 3) := by decide +kernel
theorem dX3_turnAt_12 : decode cX3_turnAt 12 = .ok (.iload_n 1, 1) := by decide +kernel
theorem dX3_turnAt_13 : decode cX3_turnAt 13 = .ok (.aload_n 0, 1) := by decide +kernel
theorem dX3_turnAt_14 : decode cX3_turnAt 14 = .ok (.getfield 11, 3) := by decide +kernel
theorem dX3_turnAt_17 : decode cX3_turnAt 17 = .ok (.arraylength, 1) := by decide +kernel
theorem dX3_turnAt_18 : decode cX3_turnAt 18 = .ok (.if_icmp .lt 7, 3) := by decide +kernel
theorem dX3_turnAt_21 : decode cX3_turnAt 21 = .ok (.aconst_null, 1) := by decide +kernel
theorem dX3_turnAt_22 : decode cX3_turnAt 22 = .ok (.goto 9, 3) := by decide +kernel
theorem dX3_turnAt_25 : decode cX3_turnAt 25 = .ok (.aload_n 0, 1) := by decide +kernel
theorem dX3_turnAt_26 : decode cX3_turnAt 26 = .ok (.getfield 11, 3) := by decide +kernel
theorem dX3_turnAt_29 : decode cX3_turnAt 29 = .ok (.iload_n 1, 1) := by decide +kernel
theorem dX3_turnAt_30 : decode cX3_turnAt 30 = .ok (.aaload, 1) := by decide +kernel
theorem dX3_turnAt_31 : decode cX3_turnAt 31 = .ok (.areturn, 1) := by decide +kernel
theorem dX3_overtakers_0 : decode cX3_overtakers 0 = .ok (.iconst 0, 1) := by decide +kernel
theorem dX3_overtakers_1 : decode cX3_overtakers 1 = .ok (.istore_n 2, 1) := by decide +kernel
theorem dX3_overtakers_2 : decode cX3_overtakers 2 = .ok (.iconst 0, 1) := by decide +kernel
theorem dX3_overtakers_3 : decode cX3_overtakers 3 = .ok (.istore_n 3, 1) := by decide +kernel
theorem dX3_overtakers_4 : decode cX3_overtakers 4 = .ok (.iload_n 3, 1) := by decide +kernel
theorem dX3_overtakers_5 : decode cX3_overtakers 5 = .ok (.aload_n 1, 1) := by decide +kernel
theorem dX3_overtakers_6 : decode cX3_overtakers 6 = .ok (.getfield 95, 3) := by decide +kernel
theorem dX3_overtakers_9 : decode cX3_overtakers 9 = .ok (.if_icmp .ge 41, 3) := by decide +kernel
theorem dX3_overtakers_12 : decode cX3_overtakers 12 = .ok (.iload_n 3, 1) := by decide +kernel
theorem dX3_overtakers_13 : decode cX3_overtakers 13 = .ok (.aload_n 0, 1) := by decide +kernel
theorem dX3_overtakers_14 : decode cX3_overtakers 14 = .ok (.getfield 89, 3) := by decide +kernel
theorem dX3_overtakers_17 : decode cX3_overtakers 17 = .ok (.if_icmp .ge 33, 3) := by decide +kernel
theorem dX3_overtakers_20 : decode cX3_overtakers 20 = .ok (.iload_n 2, 1) := by decide +kernel
theorem dX3_overtakers_21 : decode cX3_overtakers 21 = .ok (.aload_n 0, 1) := by decide +kernel
theorem dX3_overtakers_22 : decode cX3_overtakers 22 = .ok (.getfield 11, 3) := by decide +kernel
theorem dX3_overtakers_25 : decode cX3_overtakers 25 = .ok (.iload_n 3, 1) := by decide +kernel
theorem dX3_overtakers_26 : decode cX3_overtakers 26 = .ok (.aaload, 1) := by decide +kernel
theorem dX3_overtakers_27 : decode cX3_overtakers 27 = .ok (.getfield 107, 3) := by decide +kernel
theorem dX3_overtakers_30 : decode cX3_overtakers 30 = .ok (.aload_n 1, 1) := by decide +kernel
theorem dX3_overtakers_31 : decode cX3_overtakers 31 = .ok (.getfield 107, 3) := by decide +kernel
theorem dX3_overtakers_34 : decode cX3_overtakers 34 = .ok (.if_icmp .le 7, 3) := by decide +kernel
theorem dX3_overtakers_37 : decode cX3_overtakers 37 = .ok (.iconst 1, 1) := by decide +kernel
theorem dX3_overtakers_38 : decode cX3_overtakers 38 = .ok (.goto 4, 3) := by decide +kernel
theorem dX3_overtakers_41 : decode cX3_overtakers 41 = .ok (.iconst 0, 1) := by decide +kernel
theorem dX3_overtakers_42 : decode cX3_overtakers 42 = .ok (.iadd, 1) := by decide +kernel
theorem dX3_overtakers_43 : decode cX3_overtakers 43 = .ok (.istore_n 2, 1) := by decide +kernel
theorem dX3_overtakers_44 : decode cX3_overtakers 44 = .ok (.iinc 3 1, 3) := by decide +kernel
theorem dX3_overtakers_47 : decode cX3_overtakers 47 = .ok (.goto (-43), 3) := by decide +kernel
theorem dX3_overtakers_50 : decode cX3_overtakers 50 = .ok (.iload_n 2, 1) := by decide +kernel
theorem dX3_overtakers_51 : decode cX3_overtakers 51 = .ok (.ireturn, 1) := by decide +kernel
theorem dX3_overtaker_0 : decode cX3_overtaker 0 = .ok (.iconst 0, 1) := by decide +kernel
theorem dX3_overtaker_1 : decode cX3_overtaker 1 = .ok (.istore_n 3, 1) := by decide +kernel
theorem dX3_overtaker_2 : decode cX3_overtaker 2 = .ok (.iconst 0, 1) := by decide +kernel
theorem dX3_overtaker_3 : decode cX3_overtaker 3 = .ok (.istore 4, 2) := by decide +kernel
theorem dX3_overtaker_5 : decode cX3_overtaker 5 = .ok (.iload 4, 2) := by decide +kernel
theorem dX3_overtaker_7 : decode cX3_overtaker 7 = .ok (.aload_n 1, 1) := by decide +kernel
theorem dX3_overtaker_8 : decode cX3_overtaker 8 = .ok (.getfield 95, 3) := by decide +kernel
theorem dX3_overtaker_11 : decode cX3_overtaker 11 = .ok (.if_icmp .ge 54, 3) := by decide +kernel
theorem dX3_overtaker_14 : decode cX3_overtaker 14 = .ok (.iload 4, 2) := by decide +kernel
theorem dX3_overtaker_16 : decode cX3_overtaker 16 = .ok (.aload_n 0, 1) := by decide +kernel
theorem dX3_overtaker_17 : decode cX3_overtaker 17 = .ok (.getfield 89, 3) := by decide +kernel
theorem dX3_overtaker_20 : decode cX3_overtaker 20 = .ok (.if_icmp .ge 45, 3) := by decide +kernel
theorem dX3_overtaker_23 : decode cX3_overtaker 23 = .ok (.aload_n 0, 1) := by decide +kernel
theorem dX3_overtaker_24 : decode cX3_overtaker 24 = .ok (.getfield 11, 3) := by decide +kernel
theorem dX3_overtaker_27 : decode cX3_overtaker 27 = .ok (.iload 4, 2) := by decide +kernel
theorem dX3_overtaker_29 : decode cX3_overtaker 29 = .ok (.aaload, 1) := by decide +kernel
theorem dX3_overtaker_30 : decode cX3_overtaker 30 = .ok (.getfield 107, 3) := by decide +kernel
theorem dX3_overtaker_33 : decode cX3_overtaker 33 = .ok (.aload_n 1, 1) := by decide +kernel
theorem dX3_overtaker_34 : decode cX3_overtaker 34 = .ok (.getfield 107, 3) := by decide +kernel
theorem dX3_overtaker_37 : decode cX3_overtaker 37 = .ok (.if_icmp .le 22, 3) := by decide +kernel
theorem dX3_overtaker_40 : decode cX3_overtaker 40 = .ok (.iload_n 3, 1) := by decide +kernel
theorem dX3_overtaker_41 : decode cX3_overtaker 41 = .ok (.iload_n 2, 1) := by decide +kernel
theorem dX3_overtaker_42 : decode cX3_overtaker 42 = .ok (.if_icmp .ne 14, 3) := by decide +kernel
theorem dX3_overtaker_45 : decode cX3_overtaker 45 = .ok (.aload_n 0, 1) := by decide +kernel
theorem dX3_overtaker_46 : decode cX3_overtaker 46 = .ok (.getfield 11, 3) := by decide +kernel
theorem dX3_overtaker_49 : decode cX3_overtaker 49 = .ok (.iload 4, 2) := by decide +kernel
theorem dX3_overtaker_51 : decode cX3_overtaker 51 = .ok (.aaload, 1) := by decide +kernel
theorem dX3_overtaker_52 : decode cX3_overtaker 52 = .ok (.getfield 107, 3) := by decide +kernel
theorem dX3_overtaker_55 : decode cX3_overtaker 55 = .ok (.ireturn, 1) := by decide +kernel
theorem dX3_overtaker_56 : decode cX3_overtaker 56 = .ok (.iinc 3 1, 3) := by decide +kernel
theorem dX3_overtaker_59 : decode cX3_overtaker 59 = .ok (.iinc 4 1, 3) := by decide +kernel
theorem dX3_overtaker_62 : decode cX3_overtaker 62 = .ok (.goto (-57), 3) := by decide +kernel
theorem dX3_overtaker_65 : decode cX3_overtaker 65 = .ok (.bipush (-4), 2) := by decide +kernel
theorem dX3_overtaker_67 : decode cX3_overtaker 67 = .ok (.ireturn, 1) := by decide +kernel
theorem dX4_init_0 : decode cX4_init 0 = .ok (.aload_n 0, 1) := by decide +kernel
theorem dX4_init_1 : decode cX4_init 1 = .ok (.invokespecial 3, 3) := by decide +kernel
theorem dX4_init_4 : decode cX4_init 4 = .ok (.aload_n 0, 1) := by decide +kernel
theorem dX4_init_5 : decode cX4_init 5 = .ok (.bipush 6, 2) := by decide +kernel
theorem dX4_init_7 : decode cX4_init 7 = .ok (.newarray .int, 2) := by decide +kernel
theorem dX4_init_9 : decode cX4_init 9 = .ok (.putfield 9, 3) := by decide +kernel
theorem dX4_init_12 : decode cX4_init 12 = .ok (.iload_n 1, 1) := by decide +kernel
theorem dX4_init_13 : decode cX4_init 13 = .ok (.ifCond .lt 16, 3) := by decide +kernel
theorem dX4_init_16 : decode cX4_init 16 = .ok (.iload_n 1, 1) := by decide +kernel
theorem dX4_init_17 : decode cX4_init 17 = .ok (.bipush 6, 2) := by decide +kernel
theorem dX4_init_19 : decode cX4_init 19 = .ok (.if_icmp .ge 10, 3) := by decide +kernel
theorem dX4_init_22 : decode cX4_init 22 = .ok (.aload_n 0, 1) := by decide +kernel
theorem dX4_init_23 : decode cX4_init 23 = .ok (.getfield 9, 3) := by decide +kernel
theorem dX4_init_26 : decode cX4_init 26 = .ok (.iload_n 1, 1) := by decide +kernel
theorem dX4_init_27 : decode cX4_init 27 = .ok (.iconst 1, 1) := by decide +kernel
theorem dX4_init_28 : decode cX4_init 28 = .ok (.iastore, 1) := by decide +kernel
theorem dX4_init_29 : decode cX4_init 29 = .ok (.return_, 1) := by decide +kernel
theorem dX4_become_0 : decode cX4_become 0 = .ok (.iconst 0, 1) := by decide +kernel
theorem dX4_become_1 : decode cX4_become 1 = .ok (.istore_n 2, 1) := by decide +kernel
theorem dX4_become_2 : decode cX4_become 2 = .ok (.iload_n 2, 1) := by decide +kernel
theorem dX4_become_3 : decode cX4_become 3 = .ok (.bipush 6, 2) := by decide +kernel
theorem dX4_become_5 : decode cX4_become 5 = .ok (.if_icmp .ge 24, 3) := by decide +kernel
theorem dX4_become_8 : decode cX4_become 8 = .ok (.iload_n 2, 1) := by decide +kernel
theorem dX4_become_9 : decode cX4_become 9 = .ok (.aload_n 1, 1) := by decide +kernel
theorem dX4_become_10 : decode cX4_become 10 = .ok (.arraylength, 1) := by decide +kernel
theorem dX4_become_11 : decode cX4_become 11 = .ok (.if_icmp .ge 18, 3) := by decide +kernel
theorem dX4_become_14 : decode cX4_become 14 = .ok (.aload_n 0, 1) := by decide +kernel
theorem dX4_become_15 : decode cX4_become 15 = .ok (.getfield 9, 3) := by decide +kernel
theorem dX4_become_18 : decode cX4_become 18 = .ok (.iload_n 2, 1) := by decide +kernel
theorem dX4_become_19 : decode cX4_become 19 = .ok (.aload_n 1, 1) := by decide +kernel
theorem dX4_become_20 : decode cX4_become 20 = .ok (.iload_n 2, 1) := by decide +kernel
theorem dX4_become_21 : decode cX4_become 21 = .ok (.iaload, 1) := by decide +kernel
theorem dX4_become_22 : decode cX4_become 22 = .ok (.iastore, 1) := by decide +kernel
theorem dX4_become_23 : decode cX4_become 23 = .ok (.iinc 2 1, 3) := by decide +kernel
theorem dX4_become_26 : decode cX4_become 26 = .ok (.goto (-24), 3) := by decide +kernel
theorem dX4_become_29 : decode cX4_become 29 = .ok (.return_, 1) := by decide +kernel
theorem dX4_rankOf_0 : decode cX4_rankOf 0 = .ok (.lconst 0, 1) := by decide +kernel
theorem dX4_rankOf_1 : decode cX4_rankOf 1 = .ok (.lstore_n 2, 1) := by decide +kernel
theorem dX4_rankOf_2 : decode cX4_rankOf 2 = .ok (.iconst 0, 1) := by decide +kernel
theorem dX4_rankOf_3 : decode cX4_rankOf 3 = .ok (.istore 4, 2) := by decide +kernel
theorem dX4_rankOf_5 : decode cX4_rankOf 5 = .ok (.iload 4, 2) := by decide +kernel
theorem dX4_rankOf_7 : decode cX4_rankOf 7 = .ok (.bipush 6, 2) := by decide +kernel
theorem dX4_rankOf_9 : decode cX4_rankOf 9 = .ok (.if_icmp .ge 28, 3) := by decide +kernel
theorem dX4_rankOf_12 : decode cX4_rankOf 12 = .ok (.lload_n 2, 1) := by decide +kernel
theorem dX4_rankOf_13 : decode cX4_rankOf 13 = .ok (.aload_n 0, 1) := by decide +kernel
theorem dX4_rankOf_14 : decode cX4_rankOf 14 = .ok (.getfield 9, 3) := by decide +kernel
theorem dX4_rankOf_17 : decode cX4_rankOf 17 = .ok (.iload 4, 2) := by decide +kernel
theorem dX4_rankOf_19 : decode cX4_rankOf 19 = .ok (.iaload, 1) := by decide +kernel
theorem dX4_rankOf_20 : decode cX4_rankOf 20 = .ok (.i2l, 1) := by decide +kernel
theorem dX4_rankOf_21 : decode cX4_rankOf 21 = .ok (.aload_n 1, 1) := by decide +kernel
theorem dX4_rankOf_22 : decode cX4_rankOf 22 = .ok (.iload 4, 2) := by decide +kernel
theorem dX4_rankOf_24 : decode cX4_rankOf 24 = .ok (.invokevirtual 15, 3) := by decide +kernel
theorem dX4_rankOf_27 : decode cX4_rankOf 27 = .ok (.i2l, 1) := by decide +kernel
theorem dX4_rankOf_28 : decode cX4_rankOf 28 = .ok (.lmul, 1) := by decide +kernel
theorem dX4_rankOf_29 : decode cX4_rankOf 29 = .ok (.ladd, 1) := by decide +kernel
theorem dX4_rankOf_30 : decode cX4_rankOf 30 = .ok (.lstore_n 2, 1) := by decide +kernel
theorem dX4_rankOf_31 : decode cX4_rankOf 31 = .ok (.iinc 4 1, 3) := by decide +kernel
theorem dX4_rankOf_34 : decode cX4_rankOf 34 = .ok (.goto (-29), 3) := by decide +kernel
theorem dX4_rankOf_37 : decode cX4_rankOf 37 = .ok (.lload_n 2, 1) := by decide +kernel
theorem dX4_rankOf_38 : decode cX4_rankOf 38 = .ok (.lreturn, 1) := by decide +kernel
theorem dX5_init_0 : decode cX5_init 0 = .ok (.aload_n 0, 1) := by decide +kernel
theorem dX5_init_1 : decode cX5_init 1 = .ok (.invokespecial 3, 3) := by decide +kernel
theorem dX5_init_4 : decode cX5_init 4 = .ok (.aload_n 0, 1) := by decide +kernel
theorem dX5_init_5 : decode cX5_init 5 = .ok (.bipush 24, 2) := by decide +kernel
theorem dX5_init_7 : decode cX5_init 7 = .ok (.newarray .int, 2) := by decide +kernel
theorem dX5_init_9 : decode cX5_init 9 = .ok (.putfield 9, 3) := by decide +kernel
theorem dX5_init_12 : decode cX5_init 12 = .ok (.aload_n 0, 1) := by decide +kernel
theorem dX5_init_13 : decode cX5_init 13 = .ok (.iconst (-1), 1) := by decide +kernel
theorem dX5_init_14 : decode cX5_init 14 = .ok (.putfield 15, 3) := by decide +kernel
theorem dX5_init_17 : decode cX5_init 17 = .ok (.return_, 1) := by decide +kernel
theorem dX5_holdsNothing_0 : decode cX5_holdsNothing 0 = .ok (.aload_n 0, 1) := by decide +kernel
theorem dX5_holdsNothing_1 : decode cX5_holdsNothing 1 = .ok (.getfield 15, 3) := by decide +kernel
theorem dX5_holdsNothing_4 : decode cX5_holdsNothing 4 = .ok (.iconst (-1), 1) := by decide +kernel
theorem dX5_holdsNothing_5 : decode cX5_holdsNothing 5 = .ok (.if_icmp .ne 7, 3) := by decide +kernel
theorem dX5_holdsNothing_8 : decode cX5_holdsNothing 8 = .ok (.iconst 1, 1) := by decide +kernel
theorem dX5_holdsNothing_9 : decode cX5_holdsNothing 9 = .ok (.goto 4, 3) := by decide +kernel
theorem dX5_holdsNothing_12 : decode cX5_holdsNothing 12 = .ok (.iconst 0, 1) := by decide +kernel
theorem dX5_holdsNothing_13 : decode cX5_holdsNothing 13 = .ok (.ireturn, 1) := by decide +kernel
theorem dX5_startAnew_0 : decode cX5_startAnew 0 = .ok (.aload_n 0, 1) := by decide +kernel
theorem dX5_startAnew_1 : decode cX5_startAnew 1 = .ok (.getfield 9, 3) := by decide +kernel
theorem dX5_startAnew_4 : decode cX5_startAnew 4 = .ok (.iconst 0, 1) := by decide +kernel
theorem dX5_startAnew_5 : decode cX5_startAnew 5 = .ok (.invokestatic 19, 3) := by decide +kernel
theorem dX5_startAnew_8 : decode cX5_startAnew 8 = .ok (.aload_n 0, 1) := by decide +kernel
theorem dX5_startAnew_9 : decode cX5_startAnew 9 = .ok (.iload_n 1, 1) := by decide +kernel
theorem dX5_startAnew_10 : decode cX5_startAnew 10 = .ok (.putfield 15, 3) := by decide +kernel
theorem dX5_startAnew_13 : decode cX5_startAnew 13 = .ok (.aload_n 0, 1) := by decide +kernel
theorem dX5_startAnew_14 : decode cX5_startAnew 14 = .ok (.iload_n 2, 1) := by decide +kernel
theorem dX5_startAnew_15 : decode cX5_startAnew 15 = .ok (.putfield 25, 3) := by decide +kernel
theorem dX5_startAnew_18 : decode cX5_startAnew 18 = .ok (.return_, 1) := by decide +kernel
theorem dX5_empty_0 : decode cX5_empty 0 = .ok (.aload_n 0, 1) := by decide +kernel
theorem dX5_empty_1 : decode cX5_empty 1 = .ok (.iconst (-1), 1) := by decide +kernel
theorem dX5_empty_2 : decode cX5_empty 2 = .ok (.putfield 15, 3) := by decide +kernel
theorem dX5_empty_5 : decode cX5_empty 5 = .ok (.aload_n 0, 1) := by decide +kernel
theorem dX5_empty_6 : decode cX5_empty 6 = .ok (.getfield 25, 3) := by decide +kernel
theorem dX5_empty_9 : decode cX5_empty 9 = .ok (.ireturn, 1) := by decide +kernel
theorem dX5_hasSpan_0 : decode cX5_hasSpan 0 = .ok (.iload_n 2, 1) := by decide +kernel
theorem dX5_hasSpan_1 : decode cX5_hasSpan 1 = .ok (.ifCond .lt 29, 3) := by decide +kernel
theorem dX5_hasSpan_4 : decode cX5_hasSpan 4 = .ok (.iload_n 2, 1) := by decide +kernel
theorem dX5_hasSpan_5 : decode cX5_hasSpan 5 = .ok (.aload_n 0, 1) := by decide +kernel
theorem dX5_hasSpan_6 : decode cX5_hasSpan 6 = .ok (.getfield 25, 3) := by decide +kernel
theorem dX5_hasSpan_9 : decode cX5_hasSpan 9 = .ok (.if_icmp .gt 21, 3) := by decide +kernel
theorem dX5_hasSpan_12 : decode cX5_hasSpan 12 = .ok (.iload_n 1, 1) := by decide +kernel
theorem dX5_hasSpan_13 : decode cX5_hasSpan 13 = .ok (.ifCond .lt 17, 3) := by decide +kernel
theorem dX5_hasSpan_16 : decode cX5_hasSpan 16 = .ok (.iload_n 1, 1) := by decide +kernel
theorem dX5_hasSpan_17 : decode cX5_hasSpan 17 = .ok (.aload_n 0, 1) := by decide +kernel
theorem dX5_hasSpan_18 : decode cX5_hasSpan 18 = .ok (.getfield 25, 3) := by decide +kernel
theorem dX5_hasSpan_21 : decode cX5_hasSpan 21 = .ok (.iload_n 2, 1) := by decide +kernel
theorem dX5_hasSpan_22 : decode cX5_hasSpan 22 = .ok (.isub, 1) := by decide +kernel
theorem dX5_hasSpan_23 : decode cX5_hasSpan 23 = .ok (.if_icmp .gt 7, 3) := by decide +kernel
theorem dX5_hasSpan_26 : decode cX5_hasSpan 26 = .ok (.iconst 1, 1) := by decide +kernel
theorem dX5_hasSpan_27 : decode cX5_hasSpan 27 = .ok (.goto 4, 3) := by decide +kernel
theorem dX5_hasSpan_30 : decode cX5_hasSpan 30 = .ok (.iconst 0, 1) := by decide +kernel
theorem dX5_hasSpan_31 : decode cX5_hasSpan 31 = .ok (.ireturn, 1) := by decide +kernel
theorem dX5_at_0 : decode cX5_at 0 = .ok (.iload_n 1, 1) := by decide +kernel
theorem dX5_at_1 : decode cX5_at 1 = .ok (.ifCond .lt 12, 3) := by decide +kernel
theorem dX5_at_4 : decode cX5_at 4 = .ok (.iload_n 1, 1) := by decide +kernel
theorem dX5_at_5 : decode cX5_at 5 = .ok (.aload_n 0, 1) := by decide +kernel
theorem dX5_at_6 : decode cX5_at 6 = .ok (.getfield 9, 3) := by decide +kernel
theorem dX5_at_9 : decode cX5_at 9 = .ok (.arraylength, 1) := by decide +kernel
theorem dX5_at_10 : decode cX5_at 10 = .ok (.if_icmp .lt 7, 3) := by decide +kernel
theorem dX5_at_13 : decode cX5_at 13 = .ok (.iconst 0, 1) := by decide +kernel
theorem dX5_at_14 : decode cX5_at 14 = .ok (.goto 9, 3) := by decide +kernel
theorem dX5_at_17 : decode cX5_at 17 = .ok (.aload_n 0, 1) := by decide +kernel
theorem dX5_at_18 : decode cX5_at 18 = .ok (.getfield 9, 3) := by decide +kernel
theorem dX5_at_21 : decode cX5_at 21 = .ok (.iload_n 1, 1) := by decide +kernel
theorem dX5_at_22 : decode cX5_at 22 = .ok (.iaload, 1) := by decide +kernel
theorem dX5_at_23 : decode cX5_at 23 = .ok (.ireturn, 1) := by decide +kernel
theorem dX5_put_0 : decode cX5_put 0 = .ok (.iload_n 1, 1) := by decide +kernel
theorem dX5_put_1 : decode cX5_put 1 = .ok (.ifCond .lt 44, 3) := by decide +kernel
theorem dX5_put_4 : decode cX5_put 4 = .ok (.iload_n 1, 1) := by decide +kernel
theorem dX5_put_5 : decode cX5_put 5 = .ok (.aload_n 0, 1) := by decide +kernel
theorem dX5_put_6 : decode cX5_put 6 = .ok (.getfield 9, 3) := by decide +kernel
theorem dX5_put_9 : decode cX5_put 9 = .ok (.arraylength, 1) := by decide +kernel
theorem dX5_put_10 : decode cX5_put 10 = .ok (.if_icmp .ge 35, 3) := by decide +kernel
theorem dX5_put_13 : decode cX5_put 13 = .ok (.aload_n 0, 1) := by decide +kernel
theorem dX5_put_14 : decode cX5_put 14 = .ok (.getfield 9, 3) := by decide +kernel
theorem dX5_put_17 : decode cX5_put 17 = .ok (.iload_n 1, 1) := by decide +kernel
theorem dX5_put_18 : decode cX5_put 18 = .ok (.aload_n 0, 1) := by decide +kernel
theorem dX5_put_19 : decode cX5_put 19 = .ok (.getfield 15, 3) := by decide +kernel
theorem dX5_put_22 : decode cX5_put 22 = .ok (.ifCond .ne 8, 3) := by decide +kernel
theorem dX5_put_25 : decode cX5_put 25 = .ok (.iload_n 2, 1) := by decide +kernel
theorem dX5_put_26 : decode cX5_put 26 = .ok (.i2b, 1) := by decide +kernel
theorem dX5_put_27 : decode cX5_put 27 = .ok (.goto 17, 3) := by decide +kernel
theorem dX5_put_30 : decode cX5_put 30 = .ok (.aload_n 0, 1) := by decide +kernel
theorem dX5_put_31 : decode cX5_put 31 = .ok (.getfield 15, 3) := by decide +kernel
theorem dX5_put_34 : decode cX5_put 34 = .ok (.iconst 1, 1) := by decide +kernel
theorem dX5_put_35 : decode cX5_put 35 = .ok (.if_icmp .ne 8, 3) := by decide +kernel
theorem dX5_put_38 : decode cX5_put 38 = .ok (.iload_n 2, 1) := by decide +kernel
theorem dX5_put_39 : decode cX5_put 39 = .ok (.i2s, 1) := by decide +kernel
theorem dX5_put_40 : decode cX5_put 40 = .ok (.goto 4, 3) := by decide +kernel
theorem dX5_put_43 : decode cX5_put 43 = .ok (.iload_n 2, 1) := by decide +kernel
theorem dX5_put_44 : decode cX5_put 44 = .ok (.iastore, 1) := by decide +kernel
theorem dX5_put_45 : decode cX5_put 45 = .ok (.return_, 1) := by decide +kernel
theorem dX6_init_0 : decode cX6_init 0 = .ok (.aload_n 0, 1) := by decide +kernel
theorem dX6_init_1 : decode cX6_init 1 = .ok (.invokespecial 3, 3) := by decide +kernel
theorem dX6_init_4 : decode cX6_init 4 = .ok (.aload_n 0, 1) := by decide +kernel
theorem dX6_init_5 : decode cX6_init 5 = .ok (.new 9, 3) := by decide +kernel
theorem dX6_init_8 : decode cX6_init 8 = .ok (.dup, 1) := by decide +kernel
theorem dX6_init_9 : decode cX6_init 9 = .ok (.invokespecial 11, 3) := by decide +kernel
theorem dX6_init_12 : decode cX6_init 12 = .ok (.putfield 12, 3) := by decide +kernel
theorem dX6_init_15 : decode cX6_init 15 = .ok (.aload_n 0, 1) := by decide +kernel
theorem dX6_init_16 : decode cX6_init 16 = .ok (.new 9, 3) := by decide +kernel
theorem dX6_init_19 : decode cX6_init 19 = .ok (.dup, 1) := by decide +kernel
theorem dX6_init_20 : decode cX6_init 20 = .ok (.invokespecial 11, 3) := by decide +kernel
theorem dX6_init_23 : decode cX6_init 23 = .ok (.putfield 18, 3) := by decide +kernel
theorem dX6_init_26 : decode cX6_init 26 = .ok (.aload_n 0, 1) := by decide +kernel
theorem dX6_init_27 : decode cX6_init 27 = .ok (.aload_n 1, 1) := by decide +kernel
theorem dX6_init_28 : decode cX6_init 28 = .ok (.putfield 21, 3) := by decide +kernel
theorem dX6_init_31 : decode cX6_init 31 = .ok (.aload_n 0, 1) := by decide +kernel
theorem dX6_init_32 : decode cX6_init 32 = .ok (.aload_n 2, 1) := by decide +kernel
theorem dX6_init_33 : decode cX6_init 33 = .ok (.putfield 25, 3) := by decide +kernel
theorem dX6_init_36 : decode cX6_init 36 = .ok (.return_, 1) := by decide +kernel
theorem dX6_put_0 : decode cX6_put 0 = .ok (.aload_n 0, 1) := by decide +kernel
theorem dX6_put_1 : decode cX6_put 1 = .ok (.getfield 12, 3) := by decide +kernel
theorem dX6_put_4 : decode cX6_put 4 = .ok (.aload_n 1, 1) := by decide +kernel
theorem dX6_put_5 : decode cX6_put 5 = .ok (.invokevirtual 28, 3) := by decide +kernel
theorem dX6_put_8 : decode cX6_put 8 = .ok (.aload_n 0, 1) := by decide +kernel
theorem dX6_put_9 : decode cX6_put 9 = .ok (.getfield 18, 3) := by decide +kernel
theorem dX6_put_12 : decode cX6_put 12 = .ok (.aload_n 1, 1) := by decide +kernel
theorem dX6_put_13 : decode cX6_put 13 = .ok (.invokevirtual 28, 3) := by decide +kernel
theorem dX6_put_16 : decode cX6_put 16 = .ok (.return_, 1) := by decide +kernel
theorem dX6_openCount_0 : decode cX6_openCount 0 = .ok (.iconst 0, 1) := by decide +kernel
theorem dX6_openCount_1 : decode cX6_openCount 1 = .ok (.istore_n 2, 1) := by decide +kernel
theorem dX6_openCount_2 : decode cX6_openCount 2 = .ok (.iconst 0, 1) := by decide +kernel
theorem dX6_openCount_3 : decode cX6_openCount 3 = .ok (.istore_n 3, 1) := by decide +kernel
theorem dX6_openCount_4 : decode cX6_openCount 4 = .ok (.iload_n 3, 1) := by decide +kernel
theorem dX6_openCount_5 : decode cX6_openCount 5 = .ok (.aload_n 0, 1) := by decide +kernel
theorem dX6_openCount_6 : decode cX6_openCount 6 = .ok (.getfield 12, 3) := by decide +kernel
theorem dX6_openCount_9 : decode cX6_openCount 9 = .ok (.getfield 32, 3) := by decide +kernel
theorem dX6_openCount_12 : decode cX6_openCount 12 = .ok (.if_icmp .ge 32, 3) := by decide +kernel
theorem dX6_openCount_15 : decode cX6_openCount 15 = .ok (.iload_n 2, 1) := by decide +kernel
theorem dX6_openCount_16 : decode cX6_openCount 16 = .ok (.aload_n 0, 1) := by decide +kernel
theorem dX6_openCount_17 : decode cX6_openCount 17 = .ok (.getfield 12, 3) := by decide +kernel
theorem dX6_openCount_20 : decode cX6_openCount 20 = .ok (.iload_n 3, 1) := by decide +kernel
theorem dX6_openCount_21 : decode cX6_openCount 21 = .ok (.invokevirtual 36, 3) := by decide +kernel
theorem dX6_openCount_24 : decode cX6_openCount 24 = .ok (.iload_n 1, 1) := by decide +kernel
theorem dX6_openCount_25 : decode cX6_openCount 25 = .ok (.invokevirtual 40, 3) := by decide +kernel
theorem dX6_openCount_28 : decode cX6_openCount 28 = .ok (.ifCond .eq 7, 3) := by decide +kernel
theorem dX6_openCount_31 : decode cX6_openCount 31 = .ok (.iconst 1, 1) := by decide +kernel
theorem dX6_openCount_32 : decode cX6_openCount 32 = .ok (.goto 4, 3) := by decide +kernel
theorem dX6_openCount_35 : decode cX6_openCount 35 = .ok (.iconst 0, 1) := by decide +kernel
theorem dX6_openCount_36 : decode cX6_openCount 36 = .ok (.iadd, 1) := by decide +kernel
theorem dX6_openCount_37 : decode cX6_openCount 37 = .ok (.istore_n 2, 1) := by decide +kernel
theorem dX6_openCount_38 : decode cX6_openCount 38 = .ok (.iinc 3 1, 3) := by decide +kernel
theorem dX6_openCount_41 : decode cX6_openCount 41 = .ok (.goto (-37), 3) := by decide +kernel
theorem dX6_openCount_44 : decode cX6_openCount 44 = .ok (.iload_n 2, 1) := by decide +kernel
theorem dX6_openCount_45 : decode cX6_openCount 45 = .ok (.ireturn, 1) := by decide +kernel
theorem dX6_firstGate_0 : decode cX6_firstGate 0 = .ok (.iload_n 1, 1) := by decide +kernel
theorem dX6_firstGate_1 : decode cX6_firstGate 1 = .ok (.istore_n 2, 1) := by decide +kernel
theorem dX6_firstGate_2 : decode cX6_firstGate 2 = .ok (.iconst 0, 1) := by decide +kernel
theorem dX6_firstGate_3 : decode cX6_firstGate 3 = .ok (.istore_n 3, 1) := by decide +kernel
theorem dX6_firstGate_4 : decode cX6_firstGate 4 = .ok (.iload_n 3, 1) := by decide +kernel
theorem dX6_firstGate_5 : decode cX6_firstGate 5 = .ok (.aload_n 0, 1) := by decide +kernel
theorem dX6_firstGate_6 : decode cX6_firstGate 6 = .ok (.getfield 12, 3) := by decide +kernel
theorem dX6_firstGate_9 : decode cX6_firstGate 9 = .ok (.getfield 32, 3) := by decide +kernel
theorem dX6_firstGate_12 : decode cX6_firstGate 12 = .ok (.if_icmp .ge 25, 3) := by decide +kernel
theorem dX6_firstGate_15 : decode cX6_firstGate 15 = .ok (.iload_n 2, 1) := by decide +kernel
theorem dX6_firstGate_16 : decode cX6_firstGate 16 = .ok (.aload_n 0, 1) := by decide +kernel
theorem dX6_firstGate_17 : decode cX6_firstGate 17 = .ok (.getfield 12, 3) := by decide +kernel
theorem dX6_firstGate_20 : decode cX6_firstGate 20 = .ok (.iload_n 3, 1) := by decide +kernel
theorem dX6_firstGate_21 : decode cX6_firstGate 21 = .ok (.invokevirtual 36, 3) := by decide +kernel
theorem dX6_firstGate_24 : decode cX6_firstGate 24 = .ok (.getfield 46, 3) := by decide +kernel
theorem dX6_firstGate_27 : decode cX6_firstGate 27 = .ok (.invokestatic 49, 3) := by decide +kernel
theorem dX6_firstGate_30 : decode cX6_firstGate 30 = .ok (.istore_n 2, 1) := by decide +kernel
theorem dX6_firstGate_31 : decode cX6_firstGate 31 = .ok (.iinc 3 1, 3) := by decide +kernel
theorem dX6_firstGate_34 : decode cX6_firstGate 34 = .ok (.goto (-30), 3) := by decide +kernel
theorem dX6_firstGate_37 : decode cX6_firstGate 37 = .ok (.iload_n 2, 1) := by decide +kernel
theorem dX6_firstGate_38 : decode cX6_firstGate 38 = .ok (.ireturn, 1) := by decide +kernel
theorem dX6_nextWord_0 : decode cX6_nextWord 0 = .ok (.aload_n 0, 1) := by decide +kernel
theorem dX6_nextWord_1 : decode cX6_nextWord 1 = .ok (.getfield 18, 3) := by decide +kernel
theorem dX6_nextWord_4 : decode cX6_nextWord 4 = .ok (.aload_n 0, 1) := by decide +kernel
theorem dX6_nextWord_5 : decode cX6_nextWord 5 = .ok (.iload_n 1, 1) := by decide +kernel
theorem dX6_nextWord_6 : decode cX6_nextWord 6 = .ok (.invokevirtual 55, 3) := by decide +kernel
theorem dX6_nextWord_9 : decode cX6_nextWord 9 = .ok (.invokevirtual 36, 3) := by decide +kernel
theorem dX6_nextWord_12 : decode cX6_nextWord 12 = .ok (.astore_n 2, 1) := by decide +kernel
theorem dX6_nextWord_13 : decode cX6_nextWord 13 = .ok (.aload_n 2, 1) := by decide +kernel
theorem dX6_nextWord_14 : decode cX6_nextWord 14 = .ok (.ifnonnull 7, 3) := by decide +kernel
theorem dX6_nextWord_17 : decode cX6_nextWord 17 = .ok (.aconst_null, 1) := by decide +kernel
theorem dX6_nextWord_18 : decode cX6_nextWord 18 = .ok (.goto 12, 3) := by decide +kernel
theorem dX6_nextWord_21 : decode cX6_nextWord 21 = .ok (.aload_n 0, 1) := by decide +kernel
theorem dX6_nextWord_22 : decode cX6_nextWord 22 = .ok (.aload_n 2, 1) := by decide +kernel
theorem dX6_nextWord_23 : decode cX6_nextWord 23 = .ok (.getfield 59, 3) := by decide +kernel
theorem dX6_nextWord_26 : decode cX6_nextWord 26 = .ok (.iload_n 1, 1) := by decide +kernel
theorem dX6_nextWord_27 : decode cX6_nextWord 27 = .ok (.invokevirtual 62, 3) := by decide +kernel
theorem dX6_nextWord_30 : decode cX6_nextWord 30 = .ok (.areturn, 1) := by decide +kernel
theorem dX6_take_0 : decode cX6_take 0 = .ok (.aload_n 0, 1) := by decide +kernel
theorem dX6_take_1 : decode cX6_take 1 = .ok (.iload_n 1, 1) := by decide +kernel
theorem dX6_take_2 : decode cX6_take 2 = .ok (.invokevirtual 55, 3) := by decide +kernel
theorem dX6_take_5 : decode cX6_take 5 = .ok (.istore_n 2, 1) := by decide +kernel
theorem dX6_take_6 : decode cX6_take 6 = .ok (.aload_n 0, 1) := by decide +kernel
theorem dX6_take_7 : decode cX6_take 7 = .ok (.getfield 18, 3) := by decide +kernel
theorem dX6_take_10 : decode cX6_take 10 = .ok (.iload_n 2, 1) := by decide +kernel
theorem dX6_take_11 : decode cX6_take 11 = .ok (.invokevirtual 36, 3) := by decide +kernel
theorem dX6_take_14 : decode cX6_take 14 = .ok (.astore_n 3, 1) := by decide +kernel
theorem dX6_take_15 : decode cX6_take 15 = .ok (.aload_n 3, 1) := by decide +kernel
theorem dX6_take_16 : decode cX6_take 16 = .ok (.ifnonnull 7, 3) := by decide +kernel
theorem dX6_take_19 : decode cX6_take 19 = .ok (.aconst_null, 1) := by decide +kernel
theorem dX6_take_20 : decode cX6_take 20 = .ok (.goto 12, 3) := by decide +kernel
theorem dX6_take_23 : decode cX6_take 23 = .ok (.aload_n 0, 1) := by decide +kernel
theorem dX6_take_24 : decode cX6_take 24 = .ok (.aload_n 3, 1) := by decide +kernel
theorem dX6_take_25 : decode cX6_take 25 = .ok (.getfield 59, 3) := by decide +kernel
theorem dX6_take_28 : decode cX6_take 28 = .ok (.iload_n 1, 1) := by decide +kernel
theorem dX6_take_29 : decode cX6_take 29 = .ok (.invokevirtual 62, 3) := by decide +kernel
theorem dX6_take_32 : decode cX6_take 32 = .ok (.astore 4, 2) := by decide +kernel
theorem dX6_take_34 : decode cX6_take 34 = .ok (.aload 4, 2) := by decide +kernel
theorem dX6_take_36 : decode cX6_take 36 = .ok (.ifnull 27, 3) := by decide +kernel
theorem dX6_take_39 : decode cX6_take 39 = .ok (.aload_n 0, 1) := by decide +kernel
theorem dX6_take_40 : decode cX6_take 40 = .ok (.getfield 18, 3) := by decide +kernel
theorem dX6_take_43 : decode cX6_take 43 = .ok (.iload_n 2, 1) := by decide +kernel
theorem dX6_take_44 : decode cX6_take 44 = .ok (.invokevirtual 66, 3) := by decide +kernel
theorem dX6_take_47 : decode cX6_take 47 = .ok (.aload_n 0, 1) := by decide +kernel
theorem dX6_take_48 : decode cX6_take 48 = .ok (.getfield 12, 3) := by decide +kernel
theorem dX6_take_51 : decode cX6_take 51 = .ok (.aload_n 0, 1) := by decide +kernel
theorem dX6_take_52 : decode cX6_take 52 = .ok (.getfield 12, 3) := by decide +kernel
theorem dX6_take_55 : decode cX6_take 55 = .ok (.aload 4, 2) := by decide +kernel
theorem dX6_take_57 : decode cX6_take 57 = .ok (.invokevirtual 70, 3) := by decide +kernel
theorem dX6_take_60 : decode cX6_take 60 = .ok (.invokevirtual 66, 3) := by decide +kernel
theorem dX6_take_63 : decode cX6_take 63 = .ok (.aload 4, 2) := by decide +kernel
theorem dX6_take_65 : decode cX6_take 65 = .ok (.areturn, 1) := by decide +kernel
theorem dX6_nextMark_0 : decode cX6_nextMark 0 = .ok (.aload_n 0, 1) := by decide +kernel
theorem dX6_nextMark_1 : decode cX6_nextMark 1 = .ok (.iload_n 1, 1) := by decide +kernel
theorem dX6_nextMark_2 : decode cX6_nextMark 2 = .ok (.invokevirtual 74, 3) := by decide +kernel
theorem dX6_nextMark_5 : decode cX6_nextMark 5 = .ok (.istore_n 2, 1) := by decide +kernel
theorem dX6_nextMark_6 : decode cX6_nextMark 6 = .ok (.iconst (-1), 1) := by decide +kernel
theorem dX6_nextMark_7 : decode cX6_nextMark 7 = .ok (.istore_n 3, 1) := by decide +kernel
theorem dX6_nextMark_8 : decode cX6_nextMark 8 = .ok (.lconst 0, 1) := by decide +kernel
theorem dX6_nextMark_9 : decode cX6_nextMark 9 = .ok (.lstore 4, 2) := by decide +kernel
theorem dX6_nextMark_11 : decode cX6_nextMark 11 = .ok (.iconst 0, 1) := by decide +kernel
theorem dX6_nextMark_12 : decode cX6_nextMark 12 = .ok (.istore 6, 2) := by decide +kernel
theorem dX6_nextMark_14 : decode cX6_nextMark 14 = .ok (.iload 6, 2) := by decide +kernel
theorem dX6_nextMark_16 : decode cX6_nextMark 16 = .ok (.aload_n 0, 1) := by decide +kernel
theorem dX6_nextMark_17 : decode cX6_nextMark 17 = .ok (.getfield 18, 3) := by decide +kernel
theorem dX6_nextMark_20 : decode cX6_nextMark 20 = .ok (.getfield 32, 3) := by decide +kernel
theorem dX6_nextMark_23 : decode cX6_nextMark 23 = .ok (.if_icmp .ge 65, 3) := by decide +kernel
theorem dX6_nextMark_26 : decode cX6_nextMark 26 = .ok (.aload_n 0, 1) := by decide +kernel
theorem dX6_nextMark_27 : decode cX6_nextMark 27 = .ok (.getfield 18, 3) := by decide +kernel
theorem dX6_nextMark_30 : decode cX6_nextMark 30 = .ok (.iload 6, 2) := by decide +kernel
theorem dX6_nextMark_32 : decode cX6_nextMark 32 = .ok (.invokevirtual 36, 3) := by decide +kernel
theorem dX6_nextMark_35 : decode cX6_nextMark 35 = .ok (.astore 7, 2) := by decide +kernel
theorem dX6_nextMark_37 : decode cX6_nextMark 37 = .ok (.iload_n 2, 1) := by decide +kernel
theorem dX6_nextMark_38 : decode cX6_nextMark 38 = .ok (.aload 7, 2) := by decide +kernel
theorem dX6_nextMark_40 : decode cX6_nextMark 40 = .ok (.getfield 59, 3) := by decide +kernel
theorem dX6_nextMark_43 : decode cX6_nextMark 43 = .ok (.ishr, 1) := by decide +kernel
theorem dX6_nextMark_44 : decode cX6_nextMark 44 = .ok (.iconst 1, 1) := by decide +kernel
theorem dX6_nextMark_45 : decode cX6_nextMark 45 = .ok (.iand, 1) := by decide +kernel
theorem dX6_nextMark_46 : decode cX6_nextMark 46 = .ok (.ifCond .ne 6, 3) := by decide +kernel
theorem dX6_nextMark_49 : decode cX6_nextMark 49 = .ok (.goto 33, 3) := by decide +kernel
theorem dX6_nextMark_52 : decode cX6_nextMark 52 = .ok (.aload_n 0, 1) := by decide +kernel
theorem dX6_nextMark_53 : decode cX6_nextMark 53 = .ok (.getfield 25, 3) := by decide +kernel
theorem dX6_nextMark_56 : decode cX6_nextMark 56 = .ok (.aload 7, 2) := by decide +kernel
theorem dX6_nextMark_58 : decode cX6_nextMark 58 = .ok (.invokevirtual 77, 3) := by decide +kernel
theorem dX6_nextMark_61 : decode cX6_nextMark 61 = .ok (.lstore 8, 2) := by decide +kernel
theorem dX6_nextMark_63 : decode cX6_nextMark 63 = .ok (.iload_n 3, 1) := by decide +kernel
theorem dX6_nextMark_64 : decode cX6_nextMark 64 = .ok (.ifCond .lt 11, 3) := by decide +kernel
theorem dX6_nextMark_67 : decode cX6_nextMark 67 = .ok (.lload 8, 2) := by decide +kernel
theorem dX6_nextMark_69 : decode cX6_nextMark 69 = .ok (.lload 4, 2) := by decide +kernel
theorem dX6_nextMark_71 : decode cX6_nextMark 71 = .ok (.lcmp, 1) := by decide +kernel
theorem dX6_nextMark_72 : decode cX6_nextMark 72 = .ok (.ifCond .ge 10, 3) := by decide +kernel
theorem dX6_nextMark_75 : decode cX6_nextMark 75 = .ok (.iload 6, 2) := by decide +kernel
theorem dX6_nextMark_77 : decode cX6_nextMark 77 = .ok (.istore_n 3, 1) := by decide +kernel
theorem dX6_nextMark_78 : decode cX6_nextMark 78 = .ok (.lload 8, 2) := by decide +kernel
theorem dX6_nextMark_80 : decode cX6_nextMark 80 = .ok (.lstore 4, 2) := by decide +kernel
theorem dX6_nextMark_82 : decode cX6_nextMark 82 = .ok (.iinc 6 1, 3) := by decide +kernel
theorem dX6_nextMark_85 : decode cX6_nextMark 85 = .ok (.goto (-71), 3) := by decide +kernel
theorem dX6_nextMark_88 : decode cX6_nextMark 88 = .ok (.iload_n 3, 1) := by decide +kernel
theorem dX6_nextMark_89 : decode cX6_nextMark 89 = .ok (.ireturn, 1) := by decide +kernel
theorem dX6_openHouses_0 : decode cX6_openHouses 0 = .ok (.iconst 0, 1) := by decide +kernel
theorem dX6_openHouses_1 : decode cX6_openHouses 1 = .ok (.istore_n 2, 1) := by decide +kernel
theorem dX6_openHouses_2 : decode cX6_openHouses 2 = .ok (.iconst 0, 1) := by decide +kernel
theorem dX6_openHouses_3 : decode cX6_openHouses 3 = .ok (.istore_n 3, 1) := by decide +kernel
theorem dX6_openHouses_4 : decode cX6_openHouses 4 = .ok (.iload_n 3, 1) := by decide +kernel
theorem dX6_openHouses_5 : decode cX6_openHouses 5 = .ok (.aload_n 0, 1) := by decide +kernel
theorem dX6_openHouses_6 : decode cX6_openHouses 6 = .ok (.getfield 12, 3) := by decide +kernel
theorem dX6_openHouses_9 : decode cX6_openHouses 9 = .ok (.getfield 32, 3) := by decide +kernel
theorem dX6_openHouses_12 : decode cX6_openHouses 12 = .ok (.if_icmp .ge 42, 3) := by decide +kernel
theorem dX6_openHouses_15 : decode cX6_openHouses 15 = .ok (.aload_n 0, 1) := by decide +kernel
theorem dX6_openHouses_16 : decode cX6_openHouses 16 = .ok (.getfield 12, 3) := by decide +kernel
theorem dX6_openHouses_19 : decode cX6_openHouses 19 = .ok (.iload_n 3, 1) := by decide +kernel
theorem dX6_openHouses_20 : decode cX6_openHouses 20 = .ok (.invokevirtual 36, 3) := by decide +kernel
theorem dX6_openHouses_23 : decode cX6_openHouses 23 = .ok (.astore 4, 2) := by decide +kernel
theorem dX6_openHouses_25 : decode cX6_openHouses 25 = .ok (.iload_n 2, 1) := by decide +kernel
theorem dX6_openHouses_26 : decode cX6_openHouses 26 = .ok (.aload 4, 2) := by decide +kernel
theorem dX6_openHouses_28 : decode cX6_openHouses 28 = .ok (.iload_n 1, 1) := by decide +kernel
theorem dX6_openHouses_29 : decode cX6_openHouses 29 = .ok (.invokevirtual 40, 3) := by decide +kernel
theorem dX6_openHouses_32 : decode cX6_openHouses 32 = .ok (.ifCond .eq 13, 3) := by decide +kernel
theorem dX6_openHouses_35 : decode cX6_openHouses 35 = .ok (.iconst 1, 1) := by decide +kernel
theorem dX6_openHouses_36 : decode cX6_openHouses 36 = .ok (.aload 4, 2) := by decide +kernel
theorem dX6_openHouses_38 : decode cX6_openHouses 38 = .ok (.getfield 59, 3) := by decide +kernel
theorem dX6_openHouses_41 : decode cX6_openHouses 41 = .ok (.ishl, 1) := by decide +kernel
theorem dX6_openHouses_42 : decode cX6_openHouses 42 = .ok (.goto 4, 3) := by decide +kernel
theorem dX6_openHouses_45 : decode cX6_openHouses 45 = .ok (.iconst 0, 1) := by decide +kernel
theorem dX6_openHouses_46 : decode cX6_openHouses 46 = .ok (.ior, 1) := by decide +kernel
theorem dX6_openHouses_47 : decode cX6_openHouses 47 = .ok (.istore_n 2, 1) := by decide +kernel
theorem dX6_openHouses_48 : decode cX6_openHouses 48 = .ok (.iinc 3 1, 3) := by decide +kernel
theorem dX6_openHouses_51 : decode cX6_openHouses 51 = .ok (.goto (-47), 3) := by decide +kernel
theorem dX6_openHouses_54 : decode cX6_openHouses 54 = .ok (.iload_n 2, 1) := by decide +kernel
theorem dX6_openHouses_55 : decode cX6_openHouses 55 = .ok (.ireturn, 1) := by decide +kernel
theorem dX6_leastOf_0 : decode cX6_leastOf 0 = .ok (.aconst_null, 1) := by decide +kernel
theorem dX6_leastOf_1 : decode cX6_leastOf 1 = .ok (.astore_n 3, 1) := by decide +kernel
theorem dX6_leastOf_2 : decode cX6_leastOf 2 = .ok (.lconst 0, 1) := by decide +kernel
theorem dX6_leastOf_3 : decode cX6_leastOf 3 = .ok (.lstore 4, 2) := by decide +kernel
theorem dX6_leastOf_5 : decode cX6_leastOf 5 = .ok (.iconst 0, 1) := by decide +kernel
theorem dX6_leastOf_6 : decode cX6_leastOf 6 = .ok (.istore 6, 2) := by decide +kernel
theorem dX6_leastOf_8 : decode cX6_leastOf 8 = .ok (.iload 6, 2) := by decide +kernel
theorem dX6_leastOf_10 : decode cX6_leastOf 10 = .ok (.aload_n 0, 1) := by decide +kernel
theorem dX6_leastOf_11 : decode cX6_leastOf 11 = .ok (.getfield 12, 3) := by decide +kernel
theorem dX6_leastOf_14 : decode cX6_leastOf 14 = .ok (.getfield 32, 3) := by decide +kernel
theorem dX6_leastOf_17 : decode cX6_leastOf 17 = .ok (.if_icmp .ge 71, 3) := by decide +kernel
theorem dX6_leastOf_20 : decode cX6_leastOf 20 = .ok (.aload_n 0, 1) := by decide +kernel
theorem dX6_leastOf_21 : decode cX6_leastOf 21 = .ok (.getfield 12, 3) := by decide +kernel
theorem dX6_leastOf_24 : decode cX6_leastOf 24 = .ok (.iload 6, 2) := by decide +kernel
theorem dX6_leastOf_26 : decode cX6_leastOf 26 = .ok (.invokevirtual 36, 3) := by decide +kernel
theorem dX6_leastOf_29 : decode cX6_leastOf 29 = .ok (.astore 7, 2) := by decide +kernel
theorem dX6_leastOf_31 : decode cX6_leastOf 31 = .ok (.aload 7, 2) := by decide +kernel
theorem dX6_leastOf_33 : decode cX6_leastOf 33 = .ok (.getfield 59, 3) := by decide +kernel
theorem dX6_leastOf_36 : decode cX6_leastOf 36 = .ok (.iload_n 1, 1) := by decide +kernel
theorem dX6_leastOf_37 : decode cX6_leastOf 37 = .ok (.if_icmp .ne 45, 3) := by decide +kernel
theorem dX6_leastOf_40 : decode cX6_leastOf 40 = .ok (.aload 7, 2) := by decide +kernel
theorem dX6_leastOf_42 : decode cX6_leastOf 42 = .ok (.iload_n 2, 1) := by decide +kernel
theorem dX6_leastOf_43 : decode cX6_leastOf 43 = .ok (.invokevirtual 40, 3) := by decide +kernel
theorem dX6_leastOf_46 : decode cX6_leastOf 46 = .ok (.ifCond .ne 6, 3) := by decide +kernel
theorem dX6_leastOf_49 : decode cX6_leastOf 49 = .ok (.goto 33, 3) := by decide +kernel
theorem dX6_leastOf_52 : decode cX6_leastOf 52 = .ok (.aload_n 0, 1) := by decide +kernel
theorem dX6_leastOf_53 : decode cX6_leastOf 53 = .ok (.getfield 21, 3) := by decide +kernel
theorem dX6_leastOf_56 : decode cX6_leastOf 56 = .ok (.aload 7, 2) := by decide +kernel
theorem dX6_leastOf_58 : decode cX6_leastOf 58 = .ok (.invokevirtual 77, 3) := by decide +kernel
theorem dX6_leastOf_61 : decode cX6_leastOf 61 = .ok (.lstore 8, 2) := by decide +kernel
theorem dX6_leastOf_63 : decode cX6_leastOf 63 = .ok (.aload_n 3, 1) := by decide +kernel
theorem dX6_leastOf_64 : decode cX6_leastOf 64 = .ok (.ifnull 11, 3) := by decide +kernel
theorem dX6_leastOf_67 : decode cX6_leastOf 67 = .ok (.lload 8, 2) := by decide +kernel
theorem dX6_leastOf_69 : decode cX6_leastOf 69 = .ok (.lload 4, 2) := by decide +kernel
theorem dX6_leastOf_71 : decode cX6_leastOf 71 = .ok (.lcmp, 1) := by decide +kernel
theorem dX6_leastOf_72 : decode cX6_leastOf 72 = .ok (.ifCond .ge 10, 3) := by decide +kernel
theorem dX6_leastOf_75 : decode cX6_leastOf 75 = .ok (.aload 7, 2) := by decide +kernel
theorem dX6_leastOf_77 : decode cX6_leastOf 77 = .ok (.astore_n 3, 1) := by decide +kernel
theorem dX6_leastOf_78 : decode cX6_leastOf 78 = .ok (.lload 8, 2) := by decide +kernel
theorem dX6_leastOf_80 : decode cX6_leastOf 80 = .ok (.lstore 4, 2) := by decide +kernel
theorem dX6_leastOf_82 : decode cX6_leastOf 82 = .ok (.iinc 6 1, 3) := by decide +kernel
theorem dX6_leastOf_85 : decode cX6_leastOf 85 = .ok (.goto (-77), 3) := by decide +kernel
theorem dX6_leastOf_88 : decode cX6_leastOf 88 = .ok (.aload_n 3, 1) := by decide +kernel
theorem dX6_leastOf_89 : decode cX6_leastOf 89 = .ok (.areturn, 1) := by decide +kernel
theorem dX6_victim_0 : decode cX6_victim 0 = .ok (.iload_n 1, 1) := by decide +kernel
theorem dX6_victim_1 : decode cX6_victim 1 = .ok (.lookupswitch 41 #[(1, 27), (2, 32)], 27) := by decide +kernel
theorem dX6_victim_28 : decode cX6_victim 28 = .ok (.aload_n 0, 1) := by decide +kernel
theorem dX6_victim_29 : decode cX6_victim 29 = .ok (.invokevirtual 83, 3) := by decide +kernel
theorem dX6_victim_32 : decode cX6_victim 32 = .ok (.areturn, 1) := by decide +kernel
theorem dX6_victim_33 : decode cX6_victim 33 = .ok (.aload_n 0, 1) := by decide +kernel
theorem dX6_victim_34 : decode cX6_victim 34 = .ok (.aload_n 0, 1) := by decide +kernel
theorem dX6_victim_35 : decode cX6_victim 35 = .ok (.invokevirtual 87, 3) := by decide +kernel
theorem dX6_victim_38 : decode cX6_victim 38 = .ok (.invokevirtual 91, 3) := by decide +kernel
theorem dX6_victim_41 : decode cX6_victim 41 = .ok (.areturn, 1) := by decide +kernel
theorem dX6_victim_42 : decode cX6_victim 42 = .ok (.aload_n 0, 1) := by decide +kernel
theorem dX6_victim_43 : decode cX6_victim 43 = .ok (.getfield 12, 3) := by decide +kernel
theorem dX6_victim_46 : decode cX6_victim 46 = .ok (.aload_n 0, 1) := by decide +kernel
theorem dX6_victim_47 : decode cX6_victim 47 = .ok (.getfield 12, 3) := by decide +kernel
theorem dX6_victim_50 : decode cX6_victim 50 = .ok (.getfield 32, 3) := by decide +kernel
theorem dX6_victim_53 : decode cX6_victim 53 = .ok (.iconst 1, 1) := by decide +kernel
theorem dX6_victim_54 : decode cX6_victim 54 = .ok (.isub, 1) := by decide +kernel
theorem dX6_victim_55 : decode cX6_victim 55 = .ok (.invokevirtual 36, 3) := by decide +kernel
theorem dX6_victim_58 : decode cX6_victim 58 = .ok (.areturn, 1) := by decide +kernel
theorem dX6_greatest_0 : decode cX6_greatest 0 = .ok (.aconst_null, 1) := by decide +kernel
theorem dX6_greatest_1 : decode cX6_greatest 1 = .ok (.astore_n 1, 1) := by decide +kernel
theorem dX6_greatest_2 : decode cX6_greatest 2 = .ok (.lconst 0, 1) := by decide +kernel
theorem dX6_greatest_3 : decode cX6_greatest 3 = .ok (.lstore_n 2, 1) := by decide +kernel
theorem dX6_greatest_4 : decode cX6_greatest 4 = .ok (.iconst 0, 1) := by decide +kernel
theorem dX6_greatest_5 : decode cX6_greatest 5 = .ok (.istore 4, 2) := by decide +kernel
theorem dX6_greatest_7 : decode cX6_greatest 7 = .ok (.iload 4, 2) := by decide +kernel
theorem dX6_greatest_9 : decode cX6_greatest 9 = .ok (.aload_n 0, 1) := by decide +kernel
theorem dX6_greatest_10 : decode cX6_greatest 10 = .ok (.getfield 12, 3) := by decide +kernel
theorem dX6_greatest_13 : decode cX6_greatest 13 = .ok (.getfield 32, 3) := by decide +kernel
theorem dX6_greatest_16 : decode cX6_greatest 16 = .ok (.if_icmp .ge 51, 3) := by decide +kernel
theorem dX6_greatest_19 : decode cX6_greatest 19 = .ok (.aload_n 0, 1) := by decide +kernel
theorem dX6_greatest_20 : decode cX6_greatest 20 = .ok (.getfield 21, 3) := by decide +kernel
theorem dX6_greatest_23 : decode cX6_greatest 23 = .ok (.aload_n 0, 1) := by decide +kernel
theorem dX6_greatest_24 : decode cX6_greatest 24 = .ok (.getfield 12, 3) := by decide +kernel
theorem dX6_greatest_27 : decode cX6_greatest 27 = .ok (.iload 4, 2) := by decide +kernel
theorem dX6_greatest_29 : decode cX6_greatest 29 = .ok (.invokevirtual 36, 3) := by decide +kernel
theorem dX6_greatest_32 : decode cX6_greatest 32 = .ok (.invokevirtual 77, 3) := by decide +kernel
theorem dX6_greatest_35 : decode cX6_greatest 35 = .ok (.lstore 5, 2) := by decide +kernel
theorem dX6_greatest_37 : decode cX6_greatest 37 = .ok (.aload_n 1, 1) := by decide +kernel
theorem dX6_greatest_38 : decode cX6_greatest 38 = .ok (.ifnull 10, 3) := by decide +kernel
theorem dX6_greatest_41 : decode cX6_greatest 41 = .ok (.lload 5, 2) := by decide +kernel
theorem dX6_greatest_43 : decode cX6_greatest 43 = .ok (.lload_n 2, 1) := by decide +kernel
theorem dX6_greatest_44 : decode cX6_greatest 44 = .ok (.lcmp, 1) := by decide +kernel
theorem dX6_greatest_45 : decode cX6_greatest 45 = .ok (.ifCond .lt 16, 3) := by decide +kernel
theorem dX6_greatest_48 : decode cX6_greatest 48 = .ok (.aload_n 0, 1) := by decide +kernel
theorem dX6_greatest_49 : decode cX6_greatest 49 = .ok (.getfield 12, 3) := by decide +kernel
theorem dX6_greatest_52 : decode cX6_greatest 52 = .ok (.iload 4, 2) := by decide +kernel
theorem dX6_greatest_54 : decode cX6_greatest 54 = .ok (.invokevirtual 36, 3) := by decide +kernel
theorem dX6_greatest_57 : decode cX6_greatest 57 = .ok (.astore_n 1, 1) := by decide +kernel
theorem dX6_greatest_58 : decode cX6_greatest 58 = .ok (.lload 5, 2) := by decide +kernel
theorem dX6_greatest_60 : decode cX6_greatest 60 = .ok (.lstore_n 2, 1) := by decide +kernel
theorem dX6_greatest_61 : decode cX6_greatest 61 = .ok (.iinc 4 1, 3) := by decide +kernel
theorem dX6_greatest_64 : decode cX6_greatest 64 = .ok (.goto (-57), 3) := by decide +kernel
theorem dX6_greatest_67 : decode cX6_greatest 67 = .ok (.aload_n 1, 1) := by decide +kernel
theorem dX6_greatest_68 : decode cX6_greatest 68 = .ok (.areturn, 1) := by decide +kernel
theorem dX6_fullestStream_0 : decode cX6_fullestStream 0 = .ok (.iconst 0, 1) := by decide +kernel
theorem dX6_fullestStream_1 : decode cX6_fullestStream 1 = .ok (.istore_n 1, 1) := by decide +kernel
theorem dX6_fullestStream_2 : decode cX6_fullestStream 2 = .ok (.iconst 1, 1) := by decide +kernel
theorem dX6_fullestStream_3 : decode cX6_fullestStream 3 = .ok (.istore_n 2, 1) := by decide +kernel
theorem dX6_fullestStream_4 : decode cX6_fullestStream 4 = .ok (.iload_n 2, 1) := by decide +kernel
theorem dX6_fullestStream_5 : decode cX6_fullestStream 5 = .ok (.bipush 8, 2) := by decide +kernel
theorem dX6_fullestStream_7 : decode cX6_fullestStream 7 = .ok (.if_icmp .ge 30, 3) := by decide +kernel
theorem dX6_fullestStream_10 : decode cX6_fullestStream 10 = .ok (.aload_n 0, 1) := by decide +kernel
theorem dX6_fullestStream_11 : decode cX6_fullestStream 11 = .ok (.getfield 12, 3) := by decide +kernel
theorem dX6_fullestStream_14 : decode cX6_fullestStream 14 = .ok (.iload_n 2, 1) := by decide +kernel
theorem dX6_fullestStream_15 : decode cX6_fullestStream 15 = .ok (.invokevirtual 94, 3) := by decide +kernel
theorem dX6_fullestStream_18 : decode cX6_fullestStream 18 = .ok (.aload_n 0, 1) := by decide +kernel
theorem dX6_fullestStream_19 : decode cX6_fullestStream 19 = .ok (.getfield 12, 3) := by decide +kernel
theorem dX6_fullestStream_22 : decode cX6_fullestStream 22 = .ok (.iload_n 1, 1) := by decide +kernel
theorem dX6_fullestStream_23 : decode cX6_fullestStream 23 = .ok (.invokevirtual 94, 3) := by decide +kernel
theorem dX6_fullestStream_26 : decode cX6_fullestStream 26 = .ok (.if_icmp .le 5, 3) := by decide +kernel
theorem dX6_fullestStream_29 : decode cX6_fullestStream 29 = .ok (.iload_n 2, 1) := by decide +kernel
theorem dX6_fullestStream_30 : decode cX6_fullestStream 30 = .ok (.istore_n 1, 1) := by decide +kernel
theorem dX6_fullestStream_31 : decode cX6_fullestStream 31 = .ok (.iinc 2 1, 3) := by decide +kernel
theorem dX6_fullestStream_34 : decode cX6_fullestStream 34 = .ok (.goto (-30), 3) := by decide +kernel
theorem dX6_fullestStream_37 : decode cX6_fullestStream 37 = .ok (.iload_n 1, 1) := by decide +kernel
theorem dX6_fullestStream_38 : decode cX6_fullestStream 38 = .ok (.ireturn, 1) := by decide +kernel
theorem dX6_latestOf_0 : decode cX6_latestOf 0 = .ok (.aconst_null, 1) := by decide +kernel
theorem dX6_latestOf_1 : decode cX6_latestOf 1 = .ok (.astore_n 2, 1) := by decide +kernel
theorem dX6_latestOf_2 : decode cX6_latestOf 2 = .ok (.iconst 0, 1) := by decide +kernel
theorem dX6_latestOf_3 : decode cX6_latestOf 3 = .ok (.istore_n 3, 1) := by decide +kernel
theorem dX6_latestOf_4 : decode cX6_latestOf 4 = .ok (.iload_n 3, 1) := by decide +kernel
theorem dX6_latestOf_5 : decode cX6_latestOf 5 = .ok (.aload_n 0, 1) := by decide +kernel
theorem dX6_latestOf_6 : decode cX6_latestOf 6 = .ok (.getfield 12, 3) := by decide +kernel
theorem dX6_latestOf_9 : decode cX6_latestOf 9 = .ok (.getfield 32, 3) := by decide +kernel
theorem dX6_latestOf_12 : decode cX6_latestOf 12 = .ok (.if_icmp .ge 33, 3) := by decide +kernel
theorem dX6_latestOf_15 : decode cX6_latestOf 15 = .ok (.aload_n 0, 1) := by decide +kernel
theorem dX6_latestOf_16 : decode cX6_latestOf 16 = .ok (.getfield 12, 3) := by decide +kernel
theorem dX6_latestOf_19 : decode cX6_latestOf 19 = .ok (.iload_n 3, 1) := by decide +kernel
theorem dX6_latestOf_20 : decode cX6_latestOf 20 = .ok (.invokevirtual 36, 3) := by decide +kernel
theorem dX6_latestOf_23 : decode cX6_latestOf 23 = .ok (.getfield 97, 3) := by decide +kernel
theorem dX6_latestOf_26 : decode cX6_latestOf 26 = .ok (.iload_n 1, 1) := by decide +kernel
theorem dX6_latestOf_27 : decode cX6_latestOf 27 = .ok (.if_icmp .ne 12, 3) := by decide +kernel
theorem dX6_latestOf_30 : decode cX6_latestOf 30 = .ok (.aload_n 0, 1) := by decide +kernel
theorem dX6_latestOf_31 : decode cX6_latestOf 31 = .ok (.getfield 12, 3) := by decide +kernel
theorem dX6_latestOf_34 : decode cX6_latestOf 34 = .ok (.iload_n 3, 1) := by decide +kernel
theorem dX6_latestOf_35 : decode cX6_latestOf 35 = .ok (.invokevirtual 36, 3) := by decide +kernel
theorem dX6_latestOf_38 : decode cX6_latestOf 38 = .ok (.astore_n 2, 1) := by decide +kernel
theorem dX6_latestOf_39 : decode cX6_latestOf 39 = .ok (.iinc 3 1, 3) := by decide +kernel
theorem dX6_latestOf_42 : decode cX6_latestOf 42 = .ok (.goto (-38), 3) := by decide +kernel
theorem dX6_latestOf_45 : decode cX6_latestOf 45 = .ok (.aload_n 2, 1) := by decide +kernel
theorem dX6_latestOf_46 : decode cX6_latestOf 46 = .ok (.areturn, 1) := by decide +kernel
theorem dX6_discard_0 : decode cX6_discard 0 = .ok (.aload_n 0, 1) := by decide +kernel
theorem dX6_discard_1 : decode cX6_discard 1 = .ok (.getfield 12, 3) := by decide +kernel
theorem dX6_discard_4 : decode cX6_discard 4 = .ok (.aload_n 0, 1) := by decide +kernel
theorem dX6_discard_5 : decode cX6_discard 5 = .ok (.getfield 12, 3) := by decide +kernel
theorem dX6_discard_8 : decode cX6_discard 8 = .ok (.aload_n 1, 1) := by decide +kernel
theorem dX6_discard_9 : decode cX6_discard 9 = .ok (.invokevirtual 70, 3) := by decide +kernel
theorem dX6_discard_12 : decode cX6_discard 12 = .ok (.invokevirtual 66, 3) := by decide +kernel
theorem dX6_discard_15 : decode cX6_discard 15 = .ok (.aload_n 0, 1) := by decide +kernel
theorem dX6_discard_16 : decode cX6_discard 16 = .ok (.getfield 18, 3) := by decide +kernel
theorem dX6_discard_19 : decode cX6_discard 19 = .ok (.aload_n 1, 1) := by decide +kernel
theorem dX6_discard_20 : decode cX6_discard 20 = .ok (.invokevirtual 70, 3) := by decide +kernel
theorem dX6_discard_23 : decode cX6_discard 23 = .ok (.istore_n 2, 1) := by decide +kernel
theorem dX6_discard_24 : decode cX6_discard 24 = .ok (.aload_n 0, 1) := by decide +kernel
theorem dX6_discard_25 : decode cX6_discard 25 = .ok (.getfield 18, 3) := by decide +kernel
theorem dX6_discard_28 : decode cX6_discard 28 = .ok (.iload_n 2, 1) := by decide +kernel
theorem dX6_discard_29 : decode cX6_discard 29 = .ok (.ifCond .lt 7, 3) := by decide +kernel
theorem dX6_discard_32 : decode cX6_discard 32 = .ok (.iload_n 2, 1) := by decide +kernel
theorem dX6_discard_33 : decode cX6_discard 33 = .ok (.goto 11, 3) := by decide +kernel
theorem dX6_discard_36 : decode cX6_discard 36 = .ok (.aload_n 0, 1) := by decide +kernel
theorem dX6_discard_37 : decode cX6_discard 37 = .ok (.aload_n 1, 1) := by decide +kernel
theorem dX6_discard_38 : decode cX6_discard 38 = .ok (.getfield 59, 3) := by decide +kernel
theorem dX6_discard_41 : decode cX6_discard 41 = .ok (.invokevirtual 100, 3) := by decide +kernel
theorem dX6_discard_44 : decode cX6_discard 44 = .ok (.invokevirtual 66, 3) := by decide +kernel
theorem dX6_discard_47 : decode cX6_discard 47 = .ok (.return_, 1) := by decide +kernel
theorem dX6_latestMark_0 : decode cX6_latestMark 0 = .ok (.iconst (-1), 1) := by decide +kernel
theorem dX6_latestMark_1 : decode cX6_latestMark 1 = .ok (.istore_n 2, 1) := by decide +kernel
theorem dX6_latestMark_2 : decode cX6_latestMark 2 = .ok (.iconst 0, 1) := by decide +kernel
theorem dX6_latestMark_3 : decode cX6_latestMark 3 = .ok (.istore_n 3, 1) := by decide +kernel
theorem dX6_latestMark_4 : decode cX6_latestMark 4 = .ok (.iload_n 3, 1) := by decide +kernel
theorem dX6_latestMark_5 : decode cX6_latestMark 5 = .ok (.aload_n 0, 1) := by decide +kernel
theorem dX6_latestMark_6 : decode cX6_latestMark 6 = .ok (.getfield 18, 3) := by decide +kernel
theorem dX6_latestMark_9 : decode cX6_latestMark 9 = .ok (.getfield 32, 3) := by decide +kernel
theorem dX6_latestMark_12 : decode cX6_latestMark 12 = .ok (.if_icmp .ge 26, 3) := by decide +kernel
theorem dX6_latestMark_15 : decode cX6_latestMark 15 = .ok (.aload_n 0, 1) := by decide +kernel
theorem dX6_latestMark_16 : decode cX6_latestMark 16 = .ok (.getfield 18, 3) := by decide +kernel
theorem dX6_latestMark_19 : decode cX6_latestMark 19 = .ok (.iload_n 3, 1) := by decide +kernel
theorem dX6_latestMark_20 : decode cX6_latestMark 20 = .ok (.invokevirtual 36, 3) := by decide +kernel
theorem dX6_latestMark_23 : decode cX6_latestMark 23 = .ok (.getfield 59, 3) := by decide +kernel
theorem dX6_latestMark_26 : decode cX6_latestMark 26 = .ok (.iload_n 1, 1) := by decide +kernel
theorem dX6_latestMark_27 : decode cX6_latestMark 27 = .ok (.if_icmp .ne 5, 3) := by decide +kernel
theorem dX6_latestMark_30 : decode cX6_latestMark 30 = .ok (.iload_n 3, 1) := by decide +kernel
theorem dX6_latestMark_31 : decode cX6_latestMark 31 = .ok (.istore_n 2, 1) := by decide +kernel
theorem dX6_latestMark_32 : decode cX6_latestMark 32 = .ok (.iinc 3 1, 3) := by decide +kernel
theorem dX6_latestMark_35 : decode cX6_latestMark 35 = .ok (.goto (-31), 3) := by decide +kernel
theorem dX6_latestMark_38 : decode cX6_latestMark 38 = .ok (.iload_n 2, 1) := by decide +kernel
theorem dX6_latestMark_39 : decode cX6_latestMark 39 = .ok (.ireturn, 1) := by decide +kernel
theorem dX7_init_0 : decode cX7_init 0 = .ok (.aload_n 0, 1) := by decide +kernel
theorem dX7_init_1 : decode cX7_init 1 = .ok (.invokespecial 3, 3) := by decide +kernel
theorem dX7_init_4 : decode cX7_init 4 = .ok (.aload_n 0, 1) := by decide +kernel
theorem dX7_init_5 : decode cX7_init 5 = .ok (.bipush 7, 2) := by decide +kernel
theorem dX7_init_7 : decode cX7_init 7 = .ok (.newarray .int, 2) := by decide +kernel
theorem dX7_init_9 : decode cX7_init 9 = .ok (.dup, 1) := by decide +kernel
theorem dX7_init_10 : decode cX7_init 10 = .ok (.iconst 0, 1) := by decide +kernel
theorem dX7_init_11 : decode cX7_init 11 = .ok (.iconst 0, 1) := by decide +kernel
theorem dX7_init_12 : decode cX7_init 12 = .ok (.iastore, 1) := by decide +kernel
theorem dX7_init_13 : decode cX7_init 13 = .ok (.dup, 1) := by decide +kernel
theorem dX7_init_14 : decode cX7_init 14 = .ok (.iconst 1, 1) := by decide +kernel
theorem dX7_init_15 : decode cX7_init 15 = .ok (.iconst 1, 1) := by decide +kernel
theorem dX7_init_16 : decode cX7_init 16 = .ok (.iastore, 1) := by decide +kernel
theorem dX7_init_17 : decode cX7_init 17 = .ok (.dup, 1) := by decide +kernel
theorem dX7_init_18 : decode cX7_init 18 = .ok (.iconst 2, 1) := by decide +kernel
theorem dX7_init_19 : decode cX7_init 19 = .ok (.bipush 100, 2) := by decide +kernel
theorem dX7_init_21 : decode cX7_init 21 = .ok (.iastore, 1) := by decide +kernel
theorem dX7_init_22 : decode cX7_init 22 = .ok (.dup, 1) := by decide +kernel
theorem dX7_init_23 : decode cX7_init 23 = .ok (.iconst 3, 1) := by decide +kernel
theorem dX7_init_24 : decode cX7_init 24 = .ok (.iconst 0, 1) := by decide +kernel
theorem dX7_init_25 : decode cX7_init 25 = .ok (.iastore, 1) := by decide +kernel
theorem dX7_init_26 : decode cX7_init 26 = .ok (.dup, 1) := by decide +kernel
theorem dX7_init_27 : decode cX7_init 27 = .ok (.iconst 4, 1) := by decide +kernel
theorem dX7_init_28 : decode cX7_init 28 = .ok (.iconst 0, 1) := by decide +kernel
theorem dX7_init_29 : decode cX7_init 29 = .ok (.iastore, 1) := by decide +kernel
theorem dX7_init_30 : decode cX7_init 30 = .ok (.dup, 1) := by decide +kernel
theorem dX7_init_31 : decode cX7_init 31 = .ok (.iconst 5, 1) := by decide +kernel
theorem dX7_init_32 : decode cX7_init 32 = .ok (.iconst 0, 1) := by decide +kernel
theorem dX7_init_33 : decode cX7_init 33 = .ok (.iastore, 1) := by decide +kernel
theorem dX7_init_34 : decode cX7_init 34 = .ok (.dup, 1) := by decide +kernel
theorem dX7_init_35 : decode cX7_init 35 = .ok (.bipush 6, 2) := by decide +kernel
theorem dX7_init_37 : decode cX7_init 37 = .ok (.iconst 0, 1) := by decide +kernel
theorem dX7_init_38 : decode cX7_init 38 = .ok (.iastore, 1) := by decide +kernel
theorem dX7_init_39 : decode cX7_init 39 = .ok (.putfield 9, 3) := by decide +kernel
theorem dX7_init_42 : decode cX7_init 42 = .ok (.aload_n 0, 1) := by decide +kernel
theorem dX7_init_43 : decode cX7_init 43 = .ok (.iload_n 1, 1) := by decide +kernel
theorem dX7_init_44 : decode cX7_init 44 = .ok (.putfield 15, 3) := by decide +kernel
theorem dX7_init_47 : decode cX7_init 47 = .ok (.return_, 1) := by decide +kernel
theorem dX7_change_0 : decode cX7_change 0 = .ok (.iload_n 1, 1) := by decide +kernel
theorem dX7_change_1 : decode cX7_change 1 = .ok (.ifCond .lt 12, 3) := by decide +kernel
theorem dX7_change_4 : decode cX7_change 4 = .ok (.iload_n 1, 1) := by decide +kernel
theorem dX7_change_5 : decode cX7_change 5 = .ok (.aload_n 0, 1) := by decide +kernel
theorem dX7_change_6 : decode cX7_change 6 = .ok (.getfield 9, 3) := by decide +kernel
theorem dX7_change_9 : decode cX7_change 9 = .ok (.arraylength, 1) := by decide +kernel
theorem dX7_change_10 : decode cX7_change 10 = .ok (.if_icmp .lt 5, 3) := by decide +kernel
theorem dX7_change_13 : decode cX7_change 13 = .ok (.iconst (-1), 1) := by decide +kernel
theorem dX7_change_14 : decode cX7_change 14 = .ok (.ireturn, 1) := by decide +kernel
theorem dX7_change_15 : decode cX7_change 15 = .ok (.aload_n 0, 1) := by decide +kernel
theorem dX7_change_16 : decode cX7_change 16 = .ok (.getfield 9, 3) := by decide +kernel
theorem dX7_change_19 : decode cX7_change 19 = .ok (.iload_n 1, 1) := by decide +kernel
theorem dX7_change_20 : decode cX7_change 20 = .ok (.iaload, 1) := by decide +kernel
theorem dX7_change_21 : decode cX7_change 21 = .ok (.istore_n 3, 1) := by decide +kernel
theorem dX7_change_22 : decode cX7_change 22 = .ok (.aload_n 0, 1) := by decide +kernel
theorem dX7_change_23 : decode cX7_change 23 = .ok (.getfield 9, 3) := by decide +kernel
theorem dX7_change_26 : decode cX7_change 26 = .ok (.iload_n 1, 1) := by decide +kernel
theorem dX7_change_27 : decode cX7_change 27 = .ok (.iload_n 2, 1) := by decide +kernel
theorem dX7_change_28 : decode cX7_change 28 = .ok (.iastore, 1) := by decide +kernel
theorem dX7_change_29 : decode cX7_change 29 = .ok (.iload_n 3, 1) := by decide +kernel
theorem dX7_change_30 : decode cX7_change 30 = .ok (.ireturn, 1) := by decide +kernel
theorem dX7_gateAt_0 : decode cX7_gateAt 0 = .ok (.aload_n 0, 1) := by decide +kernel
theorem dX7_gateAt_1 : decode cX7_gateAt 1 = .ok (.getfield 19, 3) := by decide +kernel
theorem dX7_gateAt_4 : decode cX7_gateAt 4 = .ok (.ifCond .ne 7, 3) := by decide +kernel
theorem dX7_gateAt_7 : decode cX7_gateAt 7 = .ok (.iload_n 1, 1) := by decide +kernel
theorem dX7_gateAt_8 : decode cX7_gateAt 8 = .ok (.goto 18, 3) := by decide +kernel
theorem dX7_gateAt_11 : decode cX7_gateAt 11 = .ok (.iload_n 1, 1) := by decide +kernel
theorem dX7_gateAt_12 : decode cX7_gateAt 12 = .ok (.aload_n 0, 1) := by decide +kernel
theorem dX7_gateAt_13 : decode cX7_gateAt 13 = .ok (.getfield 22, 3) := by decide +kernel
theorem dX7_gateAt_16 : decode cX7_gateAt 16 = .ok (.aload_n 0, 1) := by decide +kernel
theorem dX7_gateAt_17 : decode cX7_gateAt 17 = .ok (.getfield 9, 3) := by decide +kernel
theorem dX7_gateAt_20 : decode cX7_gateAt 20 = .ok (.iconst 3, 1) := by decide +kernel
theorem dX7_gateAt_21 : decode cX7_gateAt 21 = .ok (.iaload, 1) := by decide +kernel
theorem dX7_gateAt_22 : decode cX7_gateAt 22 = .ok (.iadd, 1) := by decide +kernel
theorem dX7_gateAt_23 : decode cX7_gateAt 23 = .ok (.invokestatic 25, 3) := by decide +kernel
theorem dX7_gateAt_26 : decode cX7_gateAt 26 = .ok (.ireturn, 1) := by decide +kernel
theorem dX7_endFor_0 : decode cX7_endFor 0 = .ok (.aload_n 0, 1) := by decide +kernel
theorem dX7_endFor_1 : decode cX7_endFor 1 = .ok (.getfield 9, 3) := by decide +kernel
theorem dX7_endFor_4 : decode cX7_endFor 4 = .ok (.iconst 1, 1) := by decide +kernel
theorem dX7_endFor_5 : decode cX7_endFor 5 = .ok (.iaload, 1) := by decide +kernel
theorem dX7_endFor_6 : decode cX7_endFor 6 = .ok (.istore_n 3, 1) := by decide +kernel
theorem dX7_endFor_7 : decode cX7_endFor 7 = .ok (.aload_n 0, 1) := by decide +kernel
theorem dX7_endFor_8 : decode cX7_endFor 8 = .ok (.getfield 31, 3) := by decide +kernel
theorem dX7_endFor_11 : decode cX7_endFor 11 = .ok (.iload_n 2, 1) := by decide +kernel
theorem dX7_endFor_12 : decode cX7_endFor 12 = .ok (.invokestatic 25, 3) := by decide +kernel
theorem dX7_endFor_15 : decode cX7_endFor 15 = .ok (.iload_n 3, 1) := by decide +kernel
theorem dX7_endFor_16 : decode cX7_endFor 16 = .ok (.ifCond .le 12, 3) := by decide +kernel
theorem dX7_endFor_19 : decode cX7_endFor 19 = .ok (.bipush 16, 2) := by decide +kernel
theorem dX7_endFor_21 : decode cX7_endFor 21 = .ok (.iload_n 1, 1) := by decide +kernel
theorem dX7_endFor_22 : decode cX7_endFor 22 = .ok (.imul, 1) := by decide +kernel
theorem dX7_endFor_23 : decode cX7_endFor 23 = .ok (.iload_n 3, 1) := by decide +kernel
theorem dX7_endFor_24 : decode cX7_endFor 24 = .ok (.idiv, 1) := by decide +kernel
theorem dX7_endFor_25 : decode cX7_endFor 25 = .ok (.goto 4, 3) := by decide +kernel
theorem dX7_endFor_28 : decode cX7_endFor 28 = .ok (.iconst 0, 1) := by decide +kernel
theorem dX7_endFor_29 : decode cX7_endFor 29 = .ok (.iadd, 1) := by decide +kernel
theorem dX7_endFor_30 : decode cX7_endFor 30 = .ok (.ireturn, 1) := by decide +kernel
theorem dX7_follow_0 : decode cX7_follow 0 = .ok (.aload_n 0, 1) := by decide +kernel
theorem dX7_follow_1 : decode cX7_follow 1 = .ok (.aload_n 1, 1) := by decide +kernel
theorem dX7_follow_2 : decode cX7_follow 2 = .ok (.getfield 34, 3) := by decide +kernel
theorem dX7_follow_5 : decode cX7_follow 5 = .ok (.putfield 31, 3) := by decide +kernel
theorem dX7_follow_8 : decode cX7_follow 8 = .ok (.aload_n 0, 1) := by decide +kernel
theorem dX7_follow_9 : decode cX7_follow 9 = .ok (.aload_n 1, 1) := by decide +kernel
theorem dX7_follow_10 : decode cX7_follow 10 = .ok (.getfield 39, 3) := by decide +kernel
theorem dX7_follow_13 : decode cX7_follow 13 = .ok (.putfield 22, 3) := by decide +kernel
theorem dX7_follow_16 : decode cX7_follow 16 = .ok (.aload_n 0, 1) := by decide +kernel
theorem dX7_follow_17 : decode cX7_follow 17 = .ok (.dup, 1) := by decide +kernel
theorem dX7_follow_18 : decode cX7_follow 18 = .ok (.getfield 19, 3) := by decide +kernel
theorem dX7_follow_21 : decode cX7_follow 21 = .ok (.iconst 1, 1) := by decide +kernel
theorem dX7_follow_22 : decode cX7_follow 22 = .ok (.iadd, 1) := by decide +kernel
theorem dX7_follow_23 : decode cX7_follow 23 = .ok (.putfield 19, 3) := by decide +kernel
theorem dX7_follow_26 : decode cX7_follow 26 = .ok (.return_, 1) := by decide +kernel
theorem dX8_init_0 : decode cX8_init 0 = .ok (.aload_n 0, 1) := by decide +kernel
theorem dX8_init_1 : decode cX8_init 1 = .ok (.invokespecial 3, 3) := by decide +kernel
theorem dX8_init_4 : decode cX8_init 4 = .ok (.aload_n 0, 1) := by decide +kernel
theorem dX8_init_5 : decode cX8_init 5 = .ok (.bipush 40, 2) := by decide +kernel
theorem dX8_init_7 : decode cX8_init 7 = .ok (.newarray .byte, 2) := by decide +kernel
theorem dX8_init_9 : decode cX8_init 9 = .ok (.putfield 9, 3) := by decide +kernel
theorem dX8_init_12 : decode cX8_init 12 = .ok (.return_, 1) := by decide +kernel
theorem dX8_canHold_0 : decode cX8_canHold 0 = .ok (.iconst 0, 1) := by decide +kernel
theorem dX8_canHold_1 : decode cX8_canHold 1 = .ok (.istore_n 3, 1) := by decide +kernel
theorem dX8_canHold_2 : decode cX8_canHold 2 = .ok (.iload_n 3, 1) := by decide +kernel
theorem dX8_canHold_3 : decode cX8_canHold 3 = .ok (.iload_n 2, 1) := by decide +kernel
theorem dX8_canHold_4 : decode cX8_canHold 4 = .ok (.if_icmp .ge 32, 3) := by decide +kernel
theorem dX8_canHold_7 : decode cX8_canHold 7 = .ok (.lload_n 0, 1) := by decide +kernel
theorem dX8_canHold_8 : decode cX8_canHold 8 = .ok (.iload_n 3, 1) := by decide +kernel
theorem dX8_canHold_9 : decode cX8_canHold 9 = .ok (.invokestatic 15, 3) := by decide +kernel
theorem dX8_canHold_12 : decode cX8_canHold 12 = .ok (.istore 4, 2) := by decide +kernel
theorem dX8_canHold_14 : decode cX8_canHold 14 = .ok (.iload 4, 2) := by decide +kernel
theorem dX8_canHold_16 : decode cX8_canHold 16 = .ok (.bipush 32, 2) := by decide +kernel
theorem dX8_canHold_18 : decode cX8_canHold 18 = .ok (.if_icmp .lt 10, 3) := by decide +kernel
theorem dX8_canHold_21 : decode cX8_canHold 21 = .ok (.iload 4, 2) := by decide +kernel
theorem dX8_canHold_23 : decode cX8_canHold 23 = .ok (.bipush 126, 2) := by decide +kernel
theorem dX8_canHold_25 : decode cX8_canHold 25 = .ok (.if_icmp .le 5, 3) := by decide +kernel
theorem dX8_canHold_28 : decode cX8_canHold 28 = .ok (.iconst 0, 1) := by decide +kernel
theorem dX8_canHold_29 : decode cX8_canHold 29 = .ok (.ireturn, 1) := by decide +kernel
theorem dX8_canHold_30 : decode cX8_canHold 30 = .ok (.iinc 3 1, 3) := by decide +kernel
theorem dX8_canHold_33 : decode cX8_canHold 33 = .ok (.goto (-31), 3) := by decide +kernel
theorem dX8_canHold_36 : decode cX8_canHold 36 = .ok (.iconst 1, 1) := by decide +kernel
theorem dX8_canHold_37 : decode cX8_canHold 37 = .ok (.ireturn, 1) := by decide +kernel
theorem dX8_byteOf_0 : decode cX8_byteOf 0 = .ok (.lload_n 0, 1) := by decide +kernel
theorem dX8_byteOf_1 : decode cX8_byteOf 1 = .ok (.bipush 8, 2) := by decide +kernel
theorem dX8_byteOf_3 : decode cX8_byteOf 3 = .ok (.iload_n 2, 1) := by decide +kernel
theorem dX8_byteOf_4 : decode cX8_byteOf 4 = .ok (.imul, 1) := by decide +kernel
theorem dX8_byteOf_5 : decode cX8_byteOf 5 = .ok (.lushr, 1) := by decide +kernel
theorem dX8_byteOf_6 : decode cX8_byteOf 6 = .ok (.l2i, 1) := by decide +kernel
theorem dX8_byteOf_7 : decode cX8_byteOf 7 = .ok (.sipush 255, 3) := by decide +kernel
theorem dX8_byteOf_10 : decode cX8_byteOf 10 = .ok (.iand, 1) := by decide +kernel
theorem dX8_byteOf_11 : decode cX8_byteOf 11 = .ok (.ireturn, 1) := by decide +kernel
theorem dX8_hasRoomFor_0 : decode cX8_hasRoomFor 0 = .ok (.iload_n 1, 1) := by decide +kernel
theorem dX8_hasRoomFor_1 : decode cX8_hasRoomFor 1 = .ok (.bipush 40, 2) := by decide +kernel
theorem dX8_hasRoomFor_3 : decode cX8_hasRoomFor 3 = .ok (.aload_n 0, 1) := by decide +kernel
theorem dX8_hasRoomFor_4 : decode cX8_hasRoomFor 4 = .ok (.getfield 19, 3) := by decide +kernel
theorem dX8_hasRoomFor_7 : decode cX8_hasRoomFor 7 = .ok (.isub, 1) := by decide +kernel
theorem dX8_hasRoomFor_8 : decode cX8_hasRoomFor 8 = .ok (.if_icmp .gt 7, 3) := by decide +kernel
theorem dX8_hasRoomFor_11 : decode cX8_hasRoomFor 11 = .ok (.iconst 1, 1) := by decide +kernel
theorem dX8_hasRoomFor_12 : decode cX8_hasRoomFor 12 = .ok (.goto 4, 3) := by decide +kernel
theorem dX8_hasRoomFor_15 : decode cX8_hasRoomFor 15 = .ok (.iconst 0, 1) := by decide +kernel
theorem dX8_hasRoomFor_16 : decode cX8_hasRoomFor 16 = .ok (.ireturn, 1) := by decide +kernel
theorem dX8_append_0 : decode cX8_append 0 = .ok (.iload_n 3, 1) := by decide +kernel
theorem dX8_append_1 : decode cX8_append 1 = .ok (.iconst 1, 1) := by decide +kernel
theorem dX8_append_2 : decode cX8_append 2 = .ok (.isub, 1) := by decide +kernel
theorem dX8_append_3 : decode cX8_append 3 = .ok (.istore 4, 2) := by decide +kernel
theorem dX8_append_5 : decode cX8_append 5 = .ok (.iload 4, 2) := by decide +kernel
theorem dX8_append_7 : decode cX8_append 7 = .ok (.ifCond .lt 44, 3) := by decide +kernel
theorem dX8_append_10 : decode cX8_append 10 = .ok (.aload_n 0, 1) := by decide +kernel
theorem dX8_append_11 : decode cX8_append 11 = .ok (.getfield 19, 3) := by decide +kernel
theorem dX8_append_14 : decode cX8_append 14 = .ok (.bipush 40, 2) := by decide +kernel
theorem dX8_append_16 : decode cX8_append 16 = .ok (.if_icmp .ge 35, 3) := by decide +kernel
theorem dX8_append_19 : decode cX8_append 19 = .ok (.aload_n 0, 1) := by decide +kernel
theorem dX8_append_20 : decode cX8_append 20 = .ok (.getfield 9, 3) := by decide +kernel
theorem dX8_append_23 : decode cX8_append 23 = .ok (.aload_n 0, 1) := by decide +kernel
theorem dX8_append_24 : decode cX8_append 24 = .ok (.getfield 19, 3) := by decide +kernel
theorem dX8_append_27 : decode cX8_append 27 = .ok (.lload_n 1, 1) := by decide +kernel
theorem dX8_append_28 : decode cX8_append 28 = .ok (.iload 4, 2) := by decide +kernel
theorem dX8_append_30 : decode cX8_append 30 = .ok (.invokestatic 15, 3) := by decide +kernel
theorem dX8_append_33 : decode cX8_append 33 = .ok (.i2b, 1) := by decide +kernel
theorem dX8_append_34 : decode cX8_append 34 = .ok (.bastore, 1) := by decide +kernel
theorem dX8_append_35 : decode cX8_append 35 = .ok (.aload_n 0, 1) := by decide +kernel
theorem dX8_append_36 : decode cX8_append 36 = .ok (.dup, 1) := by decide +kernel
theorem dX8_append_37 : decode cX8_append 37 = .ok (.getfield 19, 3) := by decide +kernel
theorem dX8_append_40 : decode cX8_append 40 = .ok (.iconst 1, 1) := by decide +kernel
theorem dX8_append_41 : decode cX8_append 41 = .ok (.iadd, 1) := by decide +kernel
theorem dX8_append_42 : decode cX8_append 42 = .ok (.putfield 19, 3) := by decide +kernel
theorem dX8_append_45 : decode cX8_append 45 = .ok (.iinc 4 (-1), 3) := by decide +kernel
theorem dX8_append_48 : decode cX8_append 48 = .ok (.goto (-43), 3) := by decide +kernel
theorem dX8_append_51 : decode cX8_append 51 = .ok (.aload_n 0, 1) := by decide +kernel
theorem dX8_append_52 : decode cX8_append 52 = .ok (.getfield 19, 3) := by decide +kernel
theorem dX8_append_55 : decode cX8_append 55 = .ok (.ireturn, 1) := by decide +kernel
theorem dX8_clear_0 : decode cX8_clear 0 = .ok (.aload_n 0, 1) := by decide +kernel
theorem dX8_clear_1 : decode cX8_clear 1 = .ok (.iconst 0, 1) := by decide +kernel
theorem dX8_clear_2 : decode cX8_clear 2 = .ok (.putfield 19, 3) := by decide +kernel
theorem dX8_clear_5 : decode cX8_clear 5 = .ok (.return_, 1) := by decide +kernel
theorem dX8_readRule_0 : decode cX8_readRule 0 = .ok (.aload_n 1, 1) := by decide +kernel
theorem dX8_readRule_1 : decode cX8_readRule 1 = .ok (.iconst 0, 1) := by decide +kernel
theorem dX8_readRule_2 : decode cX8_readRule 2 = .ok (.invokestatic 23, 3) := by decide +kernel
theorem dX8_readRule_5 : decode cX8_readRule 5 = .ok (.aload_n 0, 1) := by decide +kernel
theorem dX8_readRule_6 : decode cX8_readRule 6 = .ok (.iconst 0, 1) := by decide +kernel
theorem dX8_readRule_7 : decode cX8_readRule 7 = .ok (.invokevirtual 29, 3) := by decide +kernel
theorem dX8_readRule_10 : decode cX8_readRule 10 = .ok (.iconst 0, 1) := by decide +kernel
theorem dX8_readRule_11 : decode cX8_readRule 11 = .ok (.istore_n 2, 1) := by decide +kernel
theorem dX8_readRule_12 : decode cX8_readRule 12 = .ok (.iload_n 2, 1) := by decide +kernel
theorem dX8_readRule_13 : decode cX8_readRule 13 = .ok (.bipush 6, 2) := by decide +kernel
theorem dX8_readRule_15 : decode cX8_readRule 15 = .ok (.if_icmp .ge 45, 3) := by decide +kernel
theorem dX8_readRule_18 : decode cX8_readRule 18 = .ok (.iload_n 2, 1) := by decide +kernel
theorem dX8_readRule_19 : decode cX8_readRule 19 = .ok (.ifCond .eq 14, 3) := by decide +kernel
theorem dX8_readRule_22 : decode cX8_readRule 22 = .ok (.aload_n 0, 1) := by decide +kernel
theorem dX8_readRule_23 : decode cX8_readRule 23 = .ok (.getfield 33, 3) := by decide +kernel
theorem dX8_readRule_26 : decode cX8_readRule 26 = .ok (.aload_n 0, 1) := by decide +kernel
theorem dX8_readRule_27 : decode cX8_readRule 27 = .ok (.getfield 19, 3) := by decide +kernel
theorem dX8_readRule_30 : decode cX8_readRule 30 = .ok (.if_icmp .ge 30, 3) := by decide +kernel
theorem dX8_readRule_33 : decode cX8_readRule 33 = .ok (.aload_n 0, 1) := by decide +kernel
theorem dX8_readRule_34 : decode cX8_readRule 34 = .ok (.aload_n 1, 1) := by decide +kernel
theorem dX8_readRule_35 : decode cX8_readRule 35 = .ok (.iload_n 2, 1) := by decide +kernel
theorem dX8_readRule_36 : decode cX8_readRule 36 = .ok (.ifCond .ne 7, 3) := by decide +kernel
theorem dX8_readRule_39 : decode cX8_readRule 39 = .ok (.iconst 1, 1) := by decide +kernel
theorem dX8_readRule_40 : decode cX8_readRule 40 = .ok (.goto 4, 3) := by decide +kernel
theorem dX8_readRule_43 : decode cX8_readRule 43 = .ok (.iconst 0, 1) := by decide +kernel
theorem dX8_readRule_44 : decode cX8_readRule 44 = .ok (.invokevirtual 36, 3) := by decide +kernel
theorem dX8_readRule_47 : decode cX8_readRule 47 = .ok (.istore_n 3, 1) := by decide +kernel
theorem dX8_readRule_48 : decode cX8_readRule 48 = .ok (.iload_n 3, 1) := by decide +kernel
theorem dX8_readRule_49 : decode cX8_readRule 49 = .ok (.ifCond .ge 5, 3) := by decide +kernel
theorem dX8_readRule_52 : decode cX8_readRule 52 = .ok (.iload_n 3, 1) := by decide +kernel
theorem dX8_readRule_53 : decode cX8_readRule 53 = .ok (.ireturn, 1) := by decide +kernel
theorem dX8_readRule_54 : decode cX8_readRule 54 = .ok (.iinc 2 1, 3) := by decide +kernel
theorem dX8_readRule_57 : decode cX8_readRule 57 = .ok (.goto (-45), 3) := by decide +kernel
theorem dX8_readRule_60 : decode cX8_readRule 60 = .ok (.aload_n 0, 1) := by decide +kernel
theorem dX8_readRule_61 : decode cX8_readRule 61 = .ok (.getfield 33, 3) := by decide +kernel
theorem dX8_readRule_64 : decode cX8_readRule 64 = .ok (.aload_n 0, 1) := by decide +kernel
theorem dX8_readRule_65 : decode cX8_readRule 65 = .ok (.getfield 19, 3) := by decide +kernel
theorem dX8_readRule_68 : decode cX8_readRule 68 = .ok (.if_icmp .ge 13, 3) := by decide +kernel
theorem dX8_readRule_71 : decode cX8_readRule 71 = .ok (.aload_n 0, 1) := by decide +kernel
theorem dX8_readRule_72 : decode cX8_readRule 72 = .ok (.getfield 33, 3) := by decide +kernel
theorem dX8_readRule_75 : decode cX8_readRule 75 = .ok (.invokestatic 40, 3) := by decide +kernel
theorem dX8_readRule_78 : decode cX8_readRule 78 = .ok (.goto 4, 3) := by decide +kernel
theorem dX8_readRule_81 : decode cX8_readRule 81 = .ok (.iload_n 2, 1) := by decide +kernel
theorem dX8_readRule_82 : decode cX8_readRule 82 = .ok (.ireturn, 1) := by decide +kernel
theorem dX8_readTerm_0 : decode cX8_readTerm 0 = .ok (.aload_n 0, 1) := by decide +kernel
theorem dX8_readTerm_1 : decode cX8_readTerm 1 = .ok (.aload_n 0, 1) := by decide +kernel
theorem dX8_readTerm_2 : decode cX8_readTerm 2 = .ok (.getfield 33, 3) := by decide +kernel
theorem dX8_readTerm_5 : decode cX8_readTerm 5 = .ok (.invokevirtual 44, 3) := by decide +kernel
theorem dX8_readTerm_8 : decode cX8_readTerm 8 = .ok (.bipush 45, 2) := by decide +kernel
theorem dX8_readTerm_10 : decode cX8_readTerm 10 = .ok (.if_icmp .ne 7, 3) := by decide +kernel
theorem dX8_readTerm_13 : decode cX8_readTerm 13 = .ok (.iconst (-1), 1) := by decide +kernel
theorem dX8_readTerm_14 : decode cX8_readTerm 14 = .ok (.goto 4, 3) := by decide +kernel
theorem dX8_readTerm_17 : decode cX8_readTerm 17 = .ok (.iconst 1, 1) := by decide +kernel
theorem dX8_readTerm_18 : decode cX8_readTerm 18 = .ok (.istore_n 3, 1) := by decide +kernel
theorem dX8_readTerm_19 : decode cX8_readTerm 19 = .ok (.aload_n 0, 1) := by decide +kernel
theorem dX8_readTerm_20 : decode cX8_readTerm 20 = .ok (.aload_n 0, 1) := by decide +kernel
theorem dX8_readTerm_21 : decode cX8_readTerm 21 = .ok (.getfield 33, 3) := by decide +kernel
theorem dX8_readTerm_24 : decode cX8_readTerm 24 = .ok (.invokevirtual 44, 3) := by decide +kernel
theorem dX8_readTerm_27 : decode cX8_readTerm 27 = .ok (.bipush 43, 2) := by decide +kernel
theorem dX8_readTerm_29 : decode cX8_readTerm 29 = .ok (.if_icmp .eq 16, 3) := by decide +kernel
theorem dX8_readTerm_32 : decode cX8_readTerm 32 = .ok (.aload_n 0, 1) := by decide +kernel
theorem dX8_readTerm_33 : decode cX8_readTerm 33 = .ok (.aload_n 0, 1) := by decide +kernel
theorem dX8_readTerm_34 : decode cX8_readTerm 34 = .ok (.getfield 33, 3) := by decide +kernel
theorem dX8_readTerm_37 : decode cX8_readTerm 37 = .ok (.invokevirtual 44, 3) := by decide +kernel
theorem dX8_readTerm_40 : decode cX8_readTerm 40 = .ok (.bipush 45, 2) := by decide +kernel
theorem dX8_readTerm_42 : decode cX8_readTerm 42 = .ok (.if_icmp .ne 16, 3) := by decide +kernel
theorem dX8_readTerm_45 : decode cX8_readTerm 45 = .ok (.aload_n 0, 1) := by decide +kernel
theorem dX8_readTerm_46 : decode cX8_readTerm 46 = .ok (.aload_n 0, 1) := by decide +kernel
theorem dX8_readTerm_47 : decode cX8_readTerm 47 = .ok (.getfield 33, 3) := by decide +kernel
theorem dX8_readTerm_50 : decode cX8_readTerm 50 = .ok (.iconst 1, 1) := by decide +kernel
theorem dX8_readTerm_51 : decode cX8_readTerm 51 = .ok (.iadd, 1) := by decide +kernel
theorem dX8_readTerm_52 : decode cX8_readTerm 52 = .ok (.invokevirtual 29, 3) := by decide +kernel
theorem dX8_readTerm_55 : decode cX8_readTerm 55 = .ok (.goto 15, 3) := by decide +kernel
theorem dX8_readTerm_58 : decode cX8_readTerm 58 = .ok (.iload_n 2, 1) := by decide +kernel
theorem dX8_readTerm_59 : decode cX8_readTerm 59 = .ok (.ifCond .ne 11, 3) := by decide +kernel
theorem dX8_readTerm_62 : decode cX8_readTerm 62 = .ok (.aload_n 0, 1) := by decide +kernel
theorem dX8_readTerm_63 : decode cX8_readTerm 63 = .ok (.getfield 33, 3) := by decide +kernel
theorem dX8_readTerm_66 : decode cX8_readTerm 66 = .ok (.invokestatic 40, 3) := by decide +kernel
theorem dX8_readTerm_69 : decode cX8_readTerm 69 = .ok (.ireturn, 1) := by decide +kernel
theorem dX8_readTerm_70 : decode cX8_readTerm 70 = .ok (.iconst 1, 1) := by decide +kernel
theorem dX8_readTerm_71 : decode cX8_readTerm 71 = .ok (.istore 4, 2) := by decide +kernel
theorem dX8_readTerm_73 : decode cX8_readTerm 73 = .ok (.aload_n 0, 1) := by decide +kernel
theorem dX8_readTerm_74 : decode cX8_readTerm 74 = .ok (.aload_n 0, 1) := by decide +kernel
theorem dX8_readTerm_75 : decode cX8_readTerm 75 = .ok (.getfield 33, 3) := by decide +kernel
theorem dX8_readTerm_78 : decode cX8_readTerm 78 = .ok (.invokevirtual 44, 3) := by decide +kernel
theorem dX8_readTerm_81 : decode cX8_readTerm 81 = .ok (.invokestatic 47, 3) := by decide +kernel
theorem dX8_readTerm_84 : decode cX8_readTerm 84 = .ok (.ifCond .eq 34, 3) := by decide +kernel
theorem dX8_readTerm_87 : decode cX8_readTerm 87 = .ok (.aload_n 0, 1) := by decide +kernel
theorem dX8_readTerm_88 : decode cX8_readTerm 88 = .ok (.getfield 33, 3) := by decide +kernel
theorem dX8_readTerm_91 : decode cX8_readTerm 91 = .ok (.istore 5, 2) := by decide +kernel
theorem dX8_readTerm_93 : decode cX8_readTerm 93 = .ok (.aload_n 0, 1) := by decide +kernel
theorem dX8_readTerm_94 : decode cX8_readTerm 94 = .ok (.invokevirtual 51, 3) := by decide +kernel
theorem dX8_readTerm_97 : decode cX8_readTerm 97 = .ok (.istore 4, 2) := by decide +kernel
theorem dX8_readTerm_99 : decode cX8_readTerm 99 = .ok (.iload 4, 2) := by decide +kernel
theorem dX8_readTerm_101 : decode cX8_readTerm 101 = .ok (.iconst 1, 1) := by decide +kernel
theorem dX8_readTerm_102 : decode cX8_readTerm 102 = .ok (.if_icmp .lt 10, 3) := by decide +kernel
theorem dX8_readTerm_105 : decode cX8_readTerm 105 = .ok (.iload 4, 2) := by decide +kernel
theorem dX8_readTerm_107 : decode cX8_readTerm 107 = .ok (.bipush 99, 2) := by decide +kernel
theorem dX8_readTerm_109 : decode cX8_readTerm 109 = .ok (.if_icmp .le 9, 3) := by decide +kernel
theorem dX8_readTerm_112 : decode cX8_readTerm 112 = .ok (.iload 5, 2) := by decide +kernel
theorem dX8_readTerm_114 : decode cX8_readTerm 114 = .ok (.invokestatic 40, 3) := by decide +kernel
theorem dX8_readTerm_117 : decode cX8_readTerm 117 = .ok (.ireturn, 1) := by decide +kernel
theorem dX8_readTerm_118 : decode cX8_readTerm 118 = .ok (.ldc 55, 2) := by decide +kernel
theorem dX8_readTerm_120 : decode cX8_readTerm 120 = .ok (.aload_n 0, 1) := by decide +kernel
theorem dX8_readTerm_121 : decode cX8_readTerm 121 = .ok (.aload_n 0, 1) := by decide +kernel
theorem dX8_readTerm_122 : decode cX8_readTerm 122 = .ok (.getfield 33, 3) := by decide +kernel
theorem dX8_readTerm_125 : decode cX8_readTerm 125 = .ok (.invokevirtual 44, 3) := by decide +kernel
theorem dX8_readTerm_128 : decode cX8_readTerm 128 = .ok (.i2c, 1) := by decide +kernel
theorem dX8_readTerm_129 : decode cX8_readTerm 129 = .ok (.invokevirtual 57, 3) := by decide +kernel
theorem dX8_readTerm_132 : decode cX8_readTerm 132 = .ok (.istore 5, 2) := by decide +kernel
theorem dX8_readTerm_134 : decode cX8_readTerm 134 = .ok (.iload 5, 2) := by decide +kernel
theorem dX8_readTerm_136 : decode cX8_readTerm 136 = .ok (.ifCond .lt 10, 3) := by decide +kernel
theorem dX8_readTerm_139 : decode cX8_readTerm 139 = .ok (.iload 5, 2) := by decide +kernel
theorem dX8_readTerm_141 : decode cX8_readTerm 141 = .ok (.aload_n 1, 1) := by decide +kernel
theorem dX8_readTerm_142 : decode cX8_readTerm 142 = .ok (.arraylength, 1) := by decide +kernel
theorem dX8_readTerm_143 : decode cX8_readTerm 143 = .ok (.if_icmp .lt 11, 3) := by decide +kernel
theorem dX8_readTerm_146 : decode cX8_readTerm 146 = .ok (.aload_n 0, 1) := by decide +kernel
theorem dX8_readTerm_147 : decode cX8_readTerm 147 = .ok (.getfield 33, 3) := by decide +kernel
theorem dX8_readTerm_150 : decode cX8_readTerm 150 = .ok (.invokestatic 40, 3) := by decide +kernel
theorem dX8_readTerm_153 : decode cX8_readTerm 153 = .ok (.ireturn, 1) := by decide +kernel
theorem dX8_readTerm_154 : decode cX8_readTerm 154 = .ok (.aload_n 1, 1) := by decide +kernel
theorem dX8_readTerm_155 : decode cX8_readTerm 155 = .ok (.iload 5, 2) := by decide +kernel
theorem dX8_readTerm_157 : decode cX8_readTerm 157 = .ok (.dup2, 1) := by decide +kernel
theorem dX8_readTerm_158 : decode cX8_readTerm 158 = .ok (.iaload, 1) := by decide +kernel
theorem dX8_readTerm_159 : decode cX8_readTerm 159 = .ok (.iload_n 3, 1) := by decide +kernel
theorem dX8_readTerm_160 : decode cX8_readTerm 160 = .ok (.iload 4, 2) := by decide +kernel
theorem dX8_readTerm_162 : decode cX8_readTerm 162 = .ok (.imul, 1) := by decide +kernel
theorem dX8_readTerm_163 : decode cX8_readTerm 163 = .ok (.iadd, 1) := by decide +kernel
theorem dX8_readTerm_164 : decode cX8_readTerm 164 = .ok (.iastore, 1) := by decide +kernel
theorem dX8_readTerm_165 : decode cX8_readTerm 165 = .ok (.aload_n 0, 1) := by decide +kernel
theorem dX8_readTerm_166 : decode cX8_readTerm 166 = .ok (.aload_n 0, 1) := by decide +kernel
theorem dX8_readTerm_167 : decode cX8_readTerm 167 = .ok (.getfield 33, 3) := by decide +kernel
theorem dX8_readTerm_170 : decode cX8_readTerm 170 = .ok (.iconst 1, 1) := by decide +kernel
theorem dX8_readTerm_171 : decode cX8_readTerm 171 = .ok (.iadd, 1) := by decide +kernel
theorem dX8_readTerm_172 : decode cX8_readTerm 172 = .ok (.invokevirtual 29, 3) := by decide +kernel
theorem dX8_readTerm_175 : decode cX8_readTerm 175 = .ok (.iconst 0, 1) := by decide +kernel
theorem dX8_readTerm_176 : decode cX8_readTerm 176 = .ok (.ireturn, 1) := by decide +kernel
theorem dX8_readNumber_0 : decode cX8_readNumber 0 = .ok (.iconst 0, 1) := by decide +kernel
theorem dX8_readNumber_1 : decode cX8_readNumber 1 = .ok (.istore_n 1, 1) := by decide +kernel
theorem dX8_readNumber_2 : decode cX8_readNumber 2 = .ok (.aload_n 0, 1) := by decide +kernel
theorem dX8_readNumber_3 : decode cX8_readNumber 3 = .ok (.getfield 33, 3) := by decide +kernel
theorem dX8_readNumber_6 : decode cX8_readNumber 6 = .ok (.istore_n 2, 1) := by decide +kernel
theorem dX8_readNumber_7 : decode cX8_readNumber 7 = .ok (.iload_n 2, 1) := by decide +kernel
theorem dX8_readNumber_8 : decode cX8_readNumber 8 = .ok (.aload_n 0, 1) := by decide +kernel
theorem dX8_readNumber_9 : decode cX8_readNumber 9 = .ok (.getfield 19, 3) := by decide +kernel
theorem dX8_readNumber_12 : decode cX8_readNumber 12 = .ok (.if_icmp .ge 40, 3) := by decide +kernel
theorem dX8_readNumber_15 : decode cX8_readNumber 15 = .ok (.aload_n 0, 1) := by decide +kernel
theorem dX8_readNumber_16 : decode cX8_readNumber 16 = .ok (.iload_n 2, 1) := by decide +kernel
theorem dX8_readNumber_17 : decode cX8_readNumber 17 = .ok (.invokevirtual 44, 3) := by decide +kernel
theorem dX8_readNumber_20 : decode cX8_readNumber 20 = .ok (.invokestatic 47, 3) := by decide +kernel
theorem dX8_readNumber_23 : decode cX8_readNumber 23 = .ok (.ifCond .eq 29, 3) := by decide +kernel
theorem dX8_readNumber_26 : decode cX8_readNumber 26 = .ok (.sipush 1000, 3) := by decide +kernel
theorem dX8_readNumber_29 : decode cX8_readNumber 29 = .ok (.bipush 10, 2) := by decide +kernel
theorem dX8_readNumber_31 : decode cX8_readNumber 31 = .ok (.iload_n 1, 1) := by decide +kernel
theorem dX8_readNumber_32 : decode cX8_readNumber 32 = .ok (.imul, 1) := by decide +kernel
theorem dX8_readNumber_33 : decode cX8_readNumber 33 = .ok (.aload_n 0, 1) := by decide +kernel
theorem dX8_readNumber_34 : decode cX8_readNumber 34 = .ok (.iload_n 2, 1) := by decide +kernel
theorem dX8_readNumber_35 : decode cX8_readNumber 35 = .ok (.invokevirtual 44, 3) := by decide +kernel
theorem dX8_readNumber_38 : decode cX8_readNumber 38 = .ok (.iadd, 1) := by decide +kernel
theorem dX8_readNumber_39 : decode cX8_readNumber 39 = .ok (.bipush 48, 2) := by decide +kernel
theorem dX8_readNumber_41 : decode cX8_readNumber 41 = .ok (.isub, 1) := by decide +kernel
theorem dX8_readNumber_42 : decode cX8_readNumber 42 = .ok (.invokestatic 62, 3) := by decide +kernel
theorem dX8_readNumber_45 : decode cX8_readNumber 45 = .ok (.istore_n 1, 1) := by decide +kernel
theorem dX8_readNumber_46 : decode cX8_readNumber 46 = .ok (.iinc 2 1, 3) := by decide +kernel
theorem dX8_readNumber_49 : decode cX8_readNumber 49 = .ok (.goto (-42), 3) := by decide +kernel
theorem dX8_readNumber_52 : decode cX8_readNumber 52 = .ok (.aload_n 0, 1) := by decide +kernel
theorem dX8_readNumber_53 : decode cX8_readNumber 53 = .ok (.iload_n 2, 1) := by decide +kernel
theorem dX8_readNumber_54 : decode cX8_readNumber 54 = .ok (.invokevirtual 29, 3) := by decide +kernel
theorem dX8_readNumber_57 : decode cX8_readNumber 57 = .ok (.iload_n 1, 1) := by decide +kernel
theorem dX8_readNumber_58 : decode cX8_readNumber 58 = .ok (.ireturn, 1) := by decide +kernel
theorem dX8_goTo_0 : decode cX8_goTo 0 = .ok (.aload_n 0, 1) := by decide +kernel
theorem dX8_goTo_1 : decode cX8_goTo 1 = .ok (.iload_n 1, 1) := by decide +kernel
theorem dX8_goTo_2 : decode cX8_goTo 2 = .ok (.putfield 33, 3) := by decide +kernel
theorem dX8_goTo_5 : decode cX8_goTo 5 = .ok (.aload_n 0, 1) := by decide +kernel
theorem dX8_goTo_6 : decode cX8_goTo 6 = .ok (.getfield 33, 3) := by decide +kernel
theorem dX8_goTo_9 : decode cX8_goTo 9 = .ok (.aload_n 0, 1) := by decide +kernel
theorem dX8_goTo_10 : decode cX8_goTo 10 = .ok (.getfield 19, 3) := by decide +kernel
theorem dX8_goTo_13 : decode cX8_goTo 13 = .ok (.if_icmp .ge 29, 3) := by decide +kernel
theorem dX8_goTo_16 : decode cX8_goTo 16 = .ok (.aload_n 0, 1) := by decide +kernel
theorem dX8_goTo_17 : decode cX8_goTo 17 = .ok (.aload_n 0, 1) := by decide +kernel
theorem dX8_goTo_18 : decode cX8_goTo 18 = .ok (.getfield 33, 3) := by decide +kernel
theorem dX8_goTo_21 : decode cX8_goTo 21 = .ok (.invokevirtual 44, 3) := by decide +kernel
theorem dX8_goTo_24 : decode cX8_goTo 24 = .ok (.bipush 32, 2) := by decide +kernel
theorem dX8_goTo_26 : decode cX8_goTo 26 = .ok (.if_icmp .ne 16, 3) := by decide +kernel
theorem dX8_goTo_29 : decode cX8_goTo 29 = .ok (.aload_n 0, 1) := by decide +kernel
theorem dX8_goTo_30 : decode cX8_goTo 30 = .ok (.dup, 1) := by decide +kernel
theorem dX8_goTo_31 : decode cX8_goTo 31 = .ok (.getfield 33, 3) := by decide +kernel
theorem dX8_goTo_34 : decode cX8_goTo 34 = .ok (.iconst 1, 1) := by decide +kernel
theorem dX8_goTo_35 : decode cX8_goTo 35 = .ok (.iadd, 1) := by decide +kernel
theorem dX8_goTo_36 : decode cX8_goTo 36 = .ok (.putfield 33, 3) := by decide +kernel
theorem dX8_goTo_39 : decode cX8_goTo 39 = .ok (.goto (-34), 3) := by decide +kernel
theorem dX8_goTo_42 : decode cX8_goTo 42 = .ok (.return_, 1) := by decide +kernel
theorem dX8_signAt_0 : decode cX8_signAt 0 = .ok (.iload_n 1, 1) := by decide +kernel
theorem dX8_signAt_1 : decode cX8_signAt 1 = .ok (.ifCond .lt 26, 3) := by decide +kernel
theorem dX8_signAt_4 : decode cX8_signAt 4 = .ok (.iload_n 1, 1) := by decide +kernel
theorem dX8_signAt_5 : decode cX8_signAt 5 = .ok (.aload_n 0, 1) := by decide +kernel
theorem dX8_signAt_6 : decode cX8_signAt 6 = .ok (.getfield 19, 3) := by decide +kernel
theorem dX8_signAt_9 : decode cX8_signAt 9 = .ok (.if_icmp .ge 18, 3) := by decide +kernel
theorem dX8_signAt_12 : decode cX8_signAt 12 = .ok (.iload_n 1, 1) := by decide +kernel
theorem dX8_signAt_13 : decode cX8_signAt 13 = .ok (.bipush 40, 2) := by decide +kernel
theorem dX8_signAt_15 : decode cX8_signAt 15 = .ok (.if_icmp .ge 12, 3) := by decide +kernel
theorem dX8_signAt_18 : decode cX8_signAt 18 = .ok (.aload_n 0, 1) := by decide +kernel
theorem dX8_signAt_19 : decode cX8_signAt 19 = .ok (.getfield 9, 3) := by decide +kernel
theorem dX8_signAt_22 : decode cX8_signAt 22 = .ok (.iload_n 1, 1) := by decide +kernel
theorem dX8_signAt_23 : decode cX8_signAt 23 = .ok (.baload, 1) := by decide +kernel
theorem dX8_signAt_24 : decode cX8_signAt 24 = .ok (.goto 4, 3) := by decide +kernel
theorem dX8_signAt_27 : decode cX8_signAt 27 = .ok (.iconst 0, 1) := by decide +kernel
theorem dX8_signAt_28 : decode cX8_signAt 28 = .ok (.ireturn, 1) := by decide +kernel
theorem dX8_isDigit_0 : decode cX8_isDigit 0 = .ok (.iload_n 0, 1) := by decide +kernel
theorem dX8_isDigit_1 : decode cX8_isDigit 1 = .ok (.bipush 48, 2) := by decide +kernel
theorem dX8_isDigit_3 : decode cX8_isDigit 3 = .ok (.if_icmp .lt 13, 3) := by decide +kernel
theorem dX8_isDigit_6 : decode cX8_isDigit 6 = .ok (.iload_n 0, 1) := by decide +kernel
theorem dX8_isDigit_7 : decode cX8_isDigit 7 = .ok (.bipush 57, 2) := by decide +kernel
theorem dX8_isDigit_9 : decode cX8_isDigit 9 = .ok (.if_icmp .gt 7, 3) := by decide +kernel
theorem dX8_isDigit_12 : decode cX8_isDigit 12 = .ok (.iconst 1, 1) := by decide +kernel
theorem dX8_isDigit_13 : decode cX8_isDigit 13 = .ok (.goto 4, 3) := by decide +kernel
theorem dX8_isDigit_16 : decode cX8_isDigit 16 = .ok (.iconst 0, 1) := by decide +kernel
theorem dX8_isDigit_17 : decode cX8_isDigit 17 = .ok (.ireturn, 1) := by decide +kernel
theorem dX8_faultAt_0 : decode cX8_faultAt 0 = .ok (.bipush (-20), 2) := by decide +kernel
theorem dX8_faultAt_2 : decode cX8_faultAt 2 = .ok (.iload_n 0, 1) := by decide +kernel
theorem dX8_faultAt_3 : decode cX8_faultAt 3 = .ok (.isub, 1) := by decide +kernel
theorem dX8_faultAt_4 : decode cX8_faultAt 4 = .ok (.ireturn, 1) := by decide +kernel
theorem dX9_init_0 : decode cX9_init 0 = .ok (.aload_n 0, 1) := by decide +kernel
theorem dX9_init_1 : decode cX9_init 1 = .ok (.invokespecial 3, 3) := by decide +kernel
theorem dX9_init_4 : decode cX9_init 4 = .ok (.aload_n 0, 1) := by decide +kernel
theorem dX9_init_5 : decode cX9_init 5 = .ok (.iconst 0, 1) := by decide +kernel
theorem dX9_init_6 : decode cX9_init 6 = .ok (.putfield 9, 3) := by decide +kernel
theorem dX9_init_9 : decode cX9_init 9 = .ok (.aload_n 0, 1) := by decide +kernel
theorem dX9_init_10 : decode cX9_init 10 = .ok (.iload_n 1, 1) := by decide +kernel
theorem dX9_init_11 : decode cX9_init 11 = .ok (.putfield 15, 3) := by decide +kernel
theorem dX9_init_14 : decode cX9_init 14 = .ok (.aload_n 0, 1) := by decide +kernel
theorem dX9_init_15 : decode cX9_init 15 = .ok (.aload_n 2, 1) := by decide +kernel
theorem dX9_init_16 : decode cX9_init 16 = .ok (.getfield 18, 3) := by decide +kernel
theorem dX9_init_19 : decode cX9_init 19 = .ok (.putfield 21, 3) := by decide +kernel
theorem dX9_init_22 : decode cX9_init 22 = .ok (.aload_n 0, 1) := by decide +kernel
theorem dX9_init_23 : decode cX9_init 23 = .ok (.aload_n 2, 1) := by decide +kernel
theorem dX9_init_24 : decode cX9_init 24 = .ok (.getfield 24, 3) := by decide +kernel
theorem dX9_init_27 : decode cX9_init 27 = .ok (.iconst 4, 1) := by decide +kernel
theorem dX9_init_28 : decode cX9_init 28 = .ok (.iaload, 1) := by decide +kernel
theorem dX9_init_29 : decode cX9_init 29 = .ok (.putfield 28, 3) := by decide +kernel
theorem dX9_init_32 : decode cX9_init 32 = .ok (.aload_n 0, 1) := by decide +kernel
theorem dX9_init_33 : decode cX9_init 33 = .ok (.aload_n 2, 1) := by decide +kernel
theorem dX9_init_34 : decode cX9_init 34 = .ok (.getfield 24, 3) := by decide +kernel
theorem dX9_init_37 : decode cX9_init 37 = .ok (.iconst 0, 1) := by decide +kernel
theorem dX9_init_38 : decode cX9_init 38 = .ok (.iaload, 1) := by decide +kernel
theorem dX9_init_39 : decode cX9_init 39 = .ok (.putfield 31, 3) := by decide +kernel
theorem dX9_init_42 : decode cX9_init 42 = .ok (.aload_n 0, 1) := by decide +kernel
theorem dX9_init_43 : decode cX9_init 43 = .ok (.iload_n 3, 1) := by decide +kernel
theorem dX9_init_44 : decode cX9_init 44 = .ok (.putfield 34, 3) := by decide +kernel
theorem dX9_init_47 : decode cX9_init 47 = .ok (.aload_n 0, 1) := by decide +kernel
theorem dX9_init_48 : decode cX9_init 48 = .ok (.iload 4, 2) := by decide +kernel
theorem dX9_init_50 : decode cX9_init 50 = .ok (.putfield 37, 3) := by decide +kernel
theorem dX9_init_53 : decode cX9_init 53 = .ok (.aload_n 0, 1) := by decide +kernel
theorem dX9_init_54 : decode cX9_init 54 = .ok (.iload 4, 2) := by decide +kernel
theorem dX9_init_56 : decode cX9_init 56 = .ok (.aload_n 2, 1) := by decide +kernel
theorem dX9_init_57 : decode cX9_init 57 = .ok (.getfield 24, 3) := by decide +kernel
theorem dX9_init_60 : decode cX9_init 60 = .ok (.iconst 2, 1) := by decide +kernel
theorem dX9_init_61 : decode cX9_init 61 = .ok (.iaload, 1) := by decide +kernel
theorem dX9_init_62 : decode cX9_init 62 = .ok (.iadd, 1) := by decide +kernel
theorem dX9_init_63 : decode cX9_init 63 = .ok (.putfield 40, 3) := by decide +kernel
theorem dX9_init_66 : decode cX9_init 66 = .ok (.aload_n 0, 1) := by decide +kernel
theorem dX9_init_67 : decode cX9_init 67 = .ok (.aload_n 2, 1) := by decide +kernel
theorem dX9_init_68 : decode cX9_init 68 = .ok (.getfield 43, 3) := by decide +kernel
theorem dX9_init_71 : decode cX9_init 71 = .ok (.putfield 46, 3) := by decide +kernel
theorem dX9_init_74 : decode cX9_init 74 = .ok (.aload_n 0, 1) := by decide +kernel
theorem dX9_init_75 : decode cX9_init 75 = .ok (.aload_n 2, 1) := by decide +kernel
theorem dX9_init_76 : decode cX9_init 76 = .ok (.iload_n 3, 1) := by decide +kernel
theorem dX9_init_77 : decode cX9_init 77 = .ok (.iload 5, 2) := by decide +kernel
theorem dX9_init_79 : decode cX9_init 79 = .ok (.invokevirtual 49, 3) := by decide +kernel
theorem dX9_init_82 : decode cX9_init 82 = .ok (.putfield 53, 3) := by decide +kernel
theorem dX9_init_85 : decode cX9_init 85 = .ok (.aload_n 0, 1) := by decide +kernel
theorem dX9_init_86 : decode cX9_init 86 = .ok (.aload_n 2, 1) := by decide +kernel
theorem dX9_init_87 : decode cX9_init 87 = .ok (.iload 4, 2) := by decide +kernel
theorem dX9_init_89 : decode cX9_init 89 = .ok (.invokevirtual 56, 3) := by decide +kernel
theorem dX9_init_92 : decode cX9_init 92 = .ok (.putfield 60, 3) := by decide +kernel
theorem dX9_init_95 : decode cX9_init 95 = .ok (.return_, 1) := by decide +kernel
theorem dX9_trait_0 : decode cX9_trait 0 = .ok (.iload_n 1, 1) := by decide +kernel
theorem dX9_trait_1 : decode cX9_trait 1 = .ok (.tableswitch 64 0 5 #[39, 44, 49, 54, 64, 59], 39) := by decide +kernel
theorem dX9_trait_40 : decode cX9_trait 40 = .ok (.aload_n 0, 1) := by decide +kernel
theorem dX9_trait_41 : decode cX9_trait 41 = .ok (.getfield 31, 3) := by decide +kernel
theorem dX9_trait_44 : decode cX9_trait 44 = .ok (.ireturn, 1) := by decide +kernel
theorem dX9_trait_45 : decode cX9_trait 45 = .ok (.aload_n 0, 1) := by decide +kernel
theorem dX9_trait_46 : decode cX9_trait 46 = .ok (.getfield 34, 3) := by decide +kernel
theorem dX9_trait_49 : decode cX9_trait 49 = .ok (.ireturn, 1) := by decide +kernel
theorem dX9_trait_50 : decode cX9_trait 50 = .ok (.aload_n 0, 1) := by decide +kernel
theorem dX9_trait_51 : decode cX9_trait 51 = .ok (.getfield 37, 3) := by decide +kernel
theorem dX9_trait_54 : decode cX9_trait 54 = .ok (.ireturn, 1) := by decide +kernel
theorem dX9_trait_55 : decode cX9_trait 55 = .ok (.aload_n 0, 1) := by decide +kernel
theorem dX9_trait_56 : decode cX9_trait 56 = .ok (.getfield 40, 3) := by decide +kernel
theorem dX9_trait_59 : decode cX9_trait 59 = .ok (.ireturn, 1) := by decide +kernel
theorem dX9_trait_60 : decode cX9_trait 60 = .ok (.aload_n 0, 1) := by decide +kernel
theorem dX9_trait_61 : decode cX9_trait 61 = .ok (.getfield 53, 3) := by decide +kernel
theorem dX9_trait_64 : decode cX9_trait 64 = .ok (.ireturn, 1) := by decide +kernel
theorem dX9_trait_65 : decode cX9_trait 65 = .ok (.aload_n 0, 1) := by decide +kernel
theorem dX9_trait_66 : decode cX9_trait 66 = .ok (.getfield 46, 3) := by decide +kernel
theorem dX9_trait_69 : decode cX9_trait 69 = .ok (.ireturn, 1) := by decide +kernel
theorem dX9_wasSent_0 : decode cX9_wasSent 0 = .ok (.aload_n 0, 1) := by decide +kernel
theorem dX9_wasSent_1 : decode cX9_wasSent 1 = .ok (.getfield 9, 3) := by decide +kernel
theorem dX9_wasSent_4 : decode cX9_wasSent 4 = .ok (.iconst 1, 1) := by decide +kernel
theorem dX9_wasSent_5 : decode cX9_wasSent 5 = .ok (.if_icmp .eq 11, 3) := by decide +kernel
theorem dX9_wasSent_8 : decode cX9_wasSent 8 = .ok (.aload_n 0, 1) := by decide +kernel
theorem dX9_wasSent_9 : decode cX9_wasSent 9 = .ok (.getfield 9, 3) := by decide +kernel
theorem dX9_wasSent_12 : decode cX9_wasSent 12 = .ok (.iconst 2, 1) := by decide +kernel
theorem dX9_wasSent_13 : decode cX9_wasSent 13 = .ok (.if_icmp .ne 7, 3) := by decide +kernel
theorem dX9_wasSent_16 : decode cX9_wasSent 16 = .ok (.iconst 1, 1) := by decide +kernel
theorem dX9_wasSent_17 : decode cX9_wasSent 17 = .ok (.goto 4, 3) := by decide +kernel
theorem dX9_wasSent_20 : decode cX9_wasSent 20 = .ok (.iconst 0, 1) := by decide +kernel
theorem dX9_wasSent_21 : decode cX9_wasSent 21 = .ok (.ireturn, 1) := by decide +kernel
theorem dX9_isOpen_0 : decode cX9_isOpen 0 = .ok (.aload_n 0, 1) := by decide +kernel
theorem dX9_isOpen_1 : decode cX9_isOpen 1 = .ok (.getfield 60, 3) := by decide +kernel
theorem dX9_isOpen_4 : decode cX9_isOpen 4 = .ok (.iload_n 1, 1) := by decide +kernel
theorem dX9_isOpen_5 : decode cX9_isOpen 5 = .ok (.if_icmp .gt 7, 3) := by decide +kernel
theorem dX9_isOpen_8 : decode cX9_isOpen 8 = .ok (.iconst 1, 1) := by decide +kernel
theorem dX9_isOpen_9 : decode cX9_isOpen 9 = .ok (.goto 4, 3) := by decide +kernel
theorem dX9_isOpen_12 : decode cX9_isOpen 12 = .ok (.iconst 0, 1) := by decide +kernel
theorem dX9_isOpen_13 : decode cX9_isOpen 13 = .ok (.ireturn, 1) := by decide +kernel
theorem dX9_lateAt_0 : decode cX9_lateAt 0 = .ok (.iload_n 1, 1) := by decide +kernel
theorem dX9_lateAt_1 : decode cX9_lateAt 1 = .ok (.aload_n 0, 1) := by decide +kernel
theorem dX9_lateAt_2 : decode cX9_lateAt 2 = .ok (.getfield 40, 3) := by decide +kernel
theorem dX9_lateAt_5 : decode cX9_lateAt 5 = .ok (.isub, 1) := by decide +kernel
theorem dX9_lateAt_6 : decode cX9_lateAt 6 = .ok (.ireturn, 1) := by decide +kernel
