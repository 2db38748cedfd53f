theorem dX10_init_0 : decode cX10_init 0 = .ok (.aload_n 0, 1) := by decide +kernel
theorem dX10_init_1 : decode cX10_init 1 = .ok (.invokespecial 1, 3) := by decide +kernel
theorem dX10_init_4 : decode cX10_init 4 = .ok (.aload_n 0, 1) := by decide +kernel
theorem dX10_init_5 : decode cX10_init 5 = .ok (.bipush 8, 2) := by decide +kernel
theorem dX10_init_7 : decode cX10_init 7 = .ok (.anewarray 9, 3) := by decide +kernel
theorem dX10_init_10 : decode cX10_init 10 = .ok (.putfield 11, 3) := by decide +kernel
theorem dX10_init_13 : decode cX10_init 13 = .ok (.aload_n 0, 1) := by decide +kernel
theorem dX10_init_14 : decode cX10_init 14 = .ok (.iconst 4, 1) := by decide +kernel
theorem dX10_init_15 : decode cX10_init 15 = .ok (.anewarray 15, 3) := by decide +kernel
theorem dX10_init_18 : decode cX10_init 18 = .ok (.putfield 17, 3) := by decide +kernel
theorem dX10_init_21 : decode cX10_init 21 = .ok (.aload_n 0, 1) := by decide +kernel
theorem dX10_init_22 : decode cX10_init 22 = .ok (.sipush 1000, 3) := by decide +kernel
theorem dX10_init_25 : decode cX10_init 25 = .ok (.anewarray 21, 3) := by decide +kernel
theorem dX10_init_28 : decode cX10_init 28 = .ok (.putfield 23, 3) := by decide +kernel
theorem dX10_init_31 : decode cX10_init 31 = .ok (.aload_n 0, 1) := by decide +kernel
theorem dX10_init_32 : decode cX10_init 32 = .ok (.new 27, 3) := by decide +kernel
theorem dX10_init_35 : decode cX10_init 35 = .ok (.dup, 1) := by decide +kernel
theorem dX10_init_36 : decode cX10_init 36 = .ok (.invokespecial 29, 3) := by decide +kernel
theorem dX10_init_39 : decode cX10_init 39 = .ok (.putfield 30, 3) := by decide +kernel
theorem dX10_init_42 : decode cX10_init 42 = .ok (.aload_n 0, 1) := by decide +kernel
theorem dX10_init_43 : decode cX10_init 43 = .ok (.bipush 6, 2) := by decide +kernel
theorem dX10_init_45 : decode cX10_init 45 = .ok (.newarray .int, 2) := by decide +kernel
theorem dX10_init_47 : decode cX10_init 47 = .ok (.putfield 34, 3) := by decide +kernel
theorem dX10_init_50 : decode cX10_init 50 = .ok (.aload_n 0, 1) := by decide +kernel
theorem dX10_init_51 : decode cX10_init 51 = .ok (.new 38, 3) := by decide +kernel
theorem dX10_init_54 : decode cX10_init 54 = .ok (.dup, 1) := by decide +kernel
theorem dX10_init_55 : decode cX10_init 55 = .ok (.iconst 2, 1) := by decide +kernel
theorem dX10_init_56 : decode cX10_init 56 = .ok (.invokespecial 40, 3) := by decide +kernel
theorem dX10_init_59 : decode cX10_init 59 = .ok (.putfield 43, 3) := by decide +kernel
theorem dX10_init_62 : decode cX10_init 62 = .ok (.aload_n 0, 1) := by decide +kernel
theorem dX10_init_63 : decode cX10_init 63 = .ok (.new 38, 3) := by decide +kernel
theorem dX10_init_66 : decode cX10_init 66 = .ok (.dup, 1) := by decide +kernel
theorem dX10_init_67 : decode cX10_init 67 = .ok (.iconst 2, 1) := by decide +kernel
theorem dX10_init_68 : decode cX10_init 68 = .ok (.invokespecial 40, 3) := by decide +kernel
theorem dX10_init_71 : decode cX10_init 71 = .ok (.putfield 47, 3) := by decide +kernel
theorem dX10_init_74 : decode cX10_init 74 = .ok (.aload_n 0, 1) := by decide +kernel
theorem dX10_init_75 : decode cX10_init 75 = .ok (.new 50, 3) := by decide +kernel
theorem dX10_init_78 : decode cX10_init 78 = .ok (.dup, 1) := by decide +kernel
theorem dX10_init_79 : decode cX10_init 79 = .ok (.new 52, 3) := by decide +kernel
theorem dX10_init_82 : decode cX10_init 82 = .ok (.dup, 1) := by decide +kernel
theorem dX10_init_83 : decode cX10_init 83 = .ok (.aload_n 0, 1) := by decide +kernel
theorem dX10_init_84 : decode cX10_init 84 = .ok (.getfield 43, 3) := by decide +kernel
theorem dX10_init_87 : decode cX10_init 87 = .ok (.aload_n 0, 1) := by decide +kernel
theorem dX10_init_88 : decode cX10_init 88 = .ok (.getfield 47, 3) := by decide +kernel
theorem dX10_init_91 : decode cX10_init 91 = .ok (.invokespecial 54, 3) := by decide +kernel
theorem dX10_init_94 : decode cX10_init 94 = .ok (.invokespecial 57, 3) := by decide +kernel
theorem dX10_init_97 : decode cX10_init 97 = .ok (.putfield 60, 3) := by decide +kernel
theorem dX10_init_100 : decode cX10_init 100 = .ok (.aload_n 0, 1) := by decide +kernel
theorem dX10_init_101 : decode cX10_init 101 = .ok (.new 64, 3) := by decide +kernel
theorem dX10_init_104 : decode cX10_init 104 = .ok (.dup, 1) := by decide +kernel
theorem dX10_init_105 : decode cX10_init 105 = .ok (.invokespecial 66, 3) := by decide +kernel
theorem dX10_init_108 : decode cX10_init 108 = .ok (.putfield 67, 3) := by decide +kernel
theorem dX10_init_111 : decode cX10_init 111 = .ok (.aload_n 0, 1) := by decide +kernel
theorem dX10_init_112 : decode cX10_init 112 = .ok (.new 71, 3) := by decide +kernel
theorem dX10_init_115 : decode cX10_init 115 = .ok (.dup, 1) := by decide +kernel
theorem dX10_init_116 : decode cX10_init 116 = .ok (.invokespecial 73, 3) := by decide +kernel
theorem dX10_init_119 : decode cX10_init 119 = .ok (.putfield 74, 3) := by decide +kernel
theorem dX10_init_122 : decode cX10_init 122 = .ok (.iconst 0, 1) := by decide +kernel
theorem dX10_init_123 : decode cX10_init 123 = .ok (.istore_n 1, 1) := by decide +kernel
theorem dX10_init_124 : decode cX10_init 124 = .ok (.iload_n 1, 1) := by decide +kernel
theorem dX10_init_125 : decode cX10_init 125 = .ok (.bipush 8, 2) := by decide +kernel
theorem dX10_init_127 : decode cX10_init 127 = .ok (.if_icmp .ge 23, 3) := by decide +kernel
theorem dX10_init_130 : decode cX10_init 130 = .ok (.aload_n 0, 1) := by decide +kernel
theorem dX10_init_131 : decode cX10_init 131 = .ok (.getfield 11, 3) := by decide +kernel
theorem dX10_init_134 : decode cX10_init 134 = .ok (.iload_n 1, 1) := by decide +kernel
theorem dX10_init_135 : decode cX10_init 135 = .ok (.new 9, 3) := by decide +kernel
theorem dX10_init_138 : decode cX10_init 138 = .ok (.dup, 1) := by decide +kernel
theorem dX10_init_139 : decode cX10_init 139 = .ok (.iload_n 1, 1) := by decide +kernel
theorem dX10_init_140 : decode cX10_init 140 = .ok (.invokespecial 78, 3) := by decide +kernel
theorem dX10_init_143 : decode cX10_init 143 = .ok (.aastore, 1) := by decide +kernel
theorem dX10_init_144 : decode cX10_init 144 = .ok (.iinc 1 1, 3) := by decide +kernel
theorem dX10_init_147 : decode cX10_init 147 = .ok (.goto (-23), 3) := by decide +kernel
theorem dX10_init_150 : decode cX10_init 150 = .ok (.iconst 0, 1) := by decide +kernel
theorem dX10_init_151 : decode cX10_init 151 = .ok (.istore_n 1, 1) := by decide +kernel
theorem dX10_init_152 : decode cX10_init 152 = .ok (.iload_n 1, 1) := by decide +kernel
theorem dX10_init_153 : decode cX10_init 153 = .ok (.iconst 4, 1) := by decide +kernel
theorem dX10_init_154 : decode cX10_init 154 = .ok (.if_icmp .ge 22, 3) := by decide +kernel
theorem dX10_init_157 : decode cX10_init 157 = .ok (.aload_n 0, 1) := by decide +kernel
theorem dX10_init_158 : decode cX10_init 158 = .ok (.getfield 17, 3) := by decide +kernel
theorem dX10_init_161 : decode cX10_init 161 = .ok (.iload_n 1, 1) := by decide +kernel
theorem dX10_init_162 : decode cX10_init 162 = .ok (.new 15, 3) := by decide +kernel
theorem dX10_init_165 : decode cX10_init 165 = .ok (.dup, 1) := by decide +kernel
theorem dX10_init_166 : decode cX10_init 166 = .ok (.invokespecial 79, 3) := by decide +kernel
theorem dX10_init_169 : decode cX10_init 169 = .ok (.aastore, 1) := by decide +kernel
theorem dX10_init_170 : decode cX10_init 170 = .ok (.iinc 1 1, 3) := by decide +kernel
theorem dX10_init_173 : decode cX10_init 173 = .ok (.goto (-21), 3) := by decide +kernel
theorem dX10_init_176 : decode cX10_init 176 = .ok (.return_, 1) := by decide +kernel
theorem dX10_set_0 : decode cX10_set 0 = .ok (.aload_n 0, 1) := by decide +kernel
theorem dX10_set_1 : decode cX10_set 1 = .ok (.iload_n 1, 1) := by decide +kernel
theorem dX10_set_2 : decode cX10_set 2 = .ok (.invokevirtual 80, 3) := by decide +kernel
theorem dX10_set_5 : decode cX10_set 5 = .ok (.astore 4, 2) := by decide +kernel
theorem dX10_set_7 : decode cX10_set 7 = .ok (.aload 4, 2) := by decide +kernel
theorem dX10_set_9 : decode cX10_set 9 = .ok (.ifnull 31, 3) := by decide +kernel
theorem dX10_set_12 : decode cX10_set 12 = .ok (.iload_n 2, 1) := by decide +kernel
theorem dX10_set_13 : decode cX10_set 13 = .ok (.ifCond .lt 27, 3) := by decide +kernel
theorem dX10_set_16 : decode cX10_set 16 = .ok (.iload_n 2, 1) := by decide +kernel
theorem dX10_set_17 : decode cX10_set 17 = .ok (.bipush 7, 2) := by decide +kernel
theorem dX10_set_19 : decode cX10_set 19 = .ok (.if_icmp .ge 21, 3) := by decide +kernel
theorem dX10_set_22 : decode cX10_set 22 = .ok (.iload_n 3, 1) := by decide +kernel
theorem dX10_set_23 : decode cX10_set 23 = .ok (.getstatic 84, 3) := by decide +kernel
theorem dX10_set_26 : decode cX10_set 26 = .ok (.iload_n 2, 1) := by decide +kernel
theorem dX10_set_27 : decode cX10_set 27 = .ok (.iaload, 1) := by decide +kernel
theorem dX10_set_28 : decode cX10_set 28 = .ok (.if_icmp .lt 12, 3) := by decide +kernel
theorem dX10_set_31 : decode cX10_set 31 = .ok (.iload_n 3, 1) := by decide +kernel
theorem dX10_set_32 : decode cX10_set 32 = .ok (.getstatic 87, 3) := by decide +kernel
theorem dX10_set_35 : decode cX10_set 35 = .ok (.iload_n 2, 1) := by decide +kernel
theorem dX10_set_36 : decode cX10_set 36 = .ok (.iaload, 1) := by decide +kernel
theorem dX10_set_37 : decode cX10_set 37 = .ok (.if_icmp .le 5, 3) := by decide +kernel
theorem dX10_set_40 : decode cX10_set 40 = .ok (.iconst (-1), 1) := by decide +kernel
theorem dX10_set_41 : decode cX10_set 41 = .ok (.ireturn, 1) := by decide +kernel
theorem dX10_set_42 : decode cX10_set 42 = .ok (.aload 4, 2) := by decide +kernel
theorem dX10_set_44 : decode cX10_set 44 = .ok (.iload_n 2, 1) := by decide +kernel
theorem dX10_set_45 : decode cX10_set 45 = .ok (.iload_n 3, 1) := by decide +kernel
theorem dX10_set_46 : decode cX10_set 46 = .ok (.invokevirtual 90, 3) := by decide +kernel
theorem dX10_set_49 : decode cX10_set 49 = .ok (.ireturn, 1) := by decide +kernel
theorem dX10_come_0 : decode cX10_come 0 = .ok (.iload_n 1, 1) := by decide +kernel
theorem dX10_come_1 : decode cX10_come 1 = .ok (.iload_n 2, 1) := by decide +kernel
theorem dX10_come_2 : decode cX10_come 2 = .ok (.invokestatic 94, 3) := by decide +kernel
theorem dX10_come_5 : decode cX10_come 5 = .ok (.ifCond .ne 5, 3) := by decide +kernel
theorem dX10_come_8 : decode cX10_come 8 = .ok (.iconst (-1), 1) := by decide +kernel
theorem dX10_come_9 : decode cX10_come 9 = .ok (.ireturn, 1) := by decide +kernel
theorem dX10_come_10 : decode cX10_come 10 = .ok (.aload_n 0, 1) := by decide +kernel
theorem dX10_come_11 : decode cX10_come 11 = .ok (.getfield 98, 3) := by decide +kernel
theorem dX10_come_14 : decode cX10_come 14 = .ok (.sipush 1000, 3) := by decide +kernel
theorem dX10_come_17 : decode cX10_come 17 = .ok (.if_icmp .ge 12, 3) := by decide +kernel
theorem dX10_come_20 : decode cX10_come 20 = .ok (.aload_n 0, 1) := by decide +kernel
theorem dX10_come_21 : decode cX10_come 21 = .ok (.iload_n 1, 1) := by decide +kernel
theorem dX10_come_22 : decode cX10_come 22 = .ok (.iload_n 2, 1) := by decide +kernel
theorem dX10_come_23 : decode cX10_come 23 = .ok (.invokevirtual 102, 3) := by decide +kernel
theorem dX10_come_26 : decode cX10_come 26 = .ok (.goto 5, 3) := by decide +kernel
theorem dX10_come_29 : decode cX10_come 29 = .ok (.bipush (-3), 2) := by decide +kernel
theorem dX10_come_31 : decode cX10_come 31 = .ok (.ireturn, 1) := by decide +kernel
theorem dX10_comes_0 : decode cX10_comes 0 = .ok (.iload 4, 2) := by decide +kernel
theorem dX10_comes_2 : decode cX10_comes 2 = .ok (.ifCond .lt 10, 3) := by decide +kernel
theorem dX10_comes_5 : decode cX10_comes 5 = .ok (.iload 4, 2) := by decide +kernel
theorem dX10_comes_7 : decode cX10_comes 7 = .ok (.bipush 12, 2) := by decide +kernel
theorem dX10_comes_9 : decode cX10_comes 9 = .ok (.if_icmp .le 5, 3) := by decide +kernel
theorem dX10_comes_12 : decode cX10_comes 12 = .ok (.iconst (-1), 1) := by decide +kernel
theorem dX10_comes_13 : decode cX10_comes 13 = .ok (.ireturn, 1) := by decide +kernel
theorem dX10_comes_14 : decode cX10_comes 14 = .ok (.aload_n 0, 1) := by decide +kernel
theorem dX10_comes_15 : decode cX10_comes 15 = .ok (.iload_n 1, 1) := by decide +kernel
theorem dX10_comes_16 : decode cX10_comes 16 = .ok (.iload_n 2, 1) := by decide +kernel
theorem dX10_comes_17 : decode cX10_comes 17 = .ok (.iload_n 3, 1) := by decide +kernel
theorem dX10_comes_18 : decode cX10_comes 18 = .ok (.iconst 2, 1) := by decide +kernel
theorem dX10_comes_19 : decode cX10_comes 19 = .ok (.iload 4, 2) := by decide +kernel
theorem dX10_comes_21 : decode cX10_comes 21 = .ok (.imul, 1) := by decide +kernel
theorem dX10_comes_22 : decode cX10_comes 22 = .ok (.invokevirtual 105, 3) := by decide +kernel
theorem dX10_comes_25 : decode cX10_comes 25 = .ok (.istore 5, 2) := by decide +kernel
theorem dX10_comes_27 : decode cX10_comes 27 = .ok (.iload 5, 2) := by decide +kernel
theorem dX10_comes_29 : decode cX10_comes 29 = .ok (.ifCond .ge 6, 3) := by decide +kernel
theorem dX10_comes_32 : decode cX10_comes 32 = .ok (.iload 5, 2) := by decide +kernel
theorem dX10_comes_34 : decode cX10_comes 34 = .ok (.ireturn, 1) := by decide +kernel
theorem dX10_comes_35 : decode cX10_comes 35 = .ok (.iconst 0, 1) := by decide +kernel
theorem dX10_comes_36 : decode cX10_comes 36 = .ok (.istore 6, 2) := by decide +kernel
theorem dX10_comes_38 : decode cX10_comes 38 = .ok (.iload 6, 2) := by decide +kernel
theorem dX10_comes_40 : decode cX10_comes 40 = .ok (.iload 4, 2) := by decide +kernel
theorem dX10_comes_42 : decode cX10_comes 42 = .ok (.if_icmp .ge 42, 3) := by decide +kernel
theorem dX10_comes_45 : decode cX10_comes 45 = .ok (.aload_n 0, 1) := by decide +kernel
theorem dX10_comes_46 : decode cX10_comes 46 = .ok (.iload_n 1, 1) := by decide +kernel
theorem dX10_comes_47 : decode cX10_comes 47 = .ok (.iload_n 3, 1) := by decide +kernel
theorem dX10_comes_48 : decode cX10_comes 48 = .ok (.iconst 2, 1) := by decide +kernel
theorem dX10_comes_49 : decode cX10_comes 49 = .ok (.iload 6, 2) := by decide +kernel
theorem dX10_comes_51 : decode cX10_comes 51 = .ok (.imul, 1) := by decide +kernel
theorem dX10_comes_52 : decode cX10_comes 52 = .ok (.iadd, 1) := by decide +kernel
theorem dX10_comes_53 : decode cX10_comes 53 = .ok (.invokevirtual 109, 3) := by decide +kernel
theorem dX10_comes_56 : decode cX10_comes 56 = .ok (.aload_n 0, 1) := by decide +kernel
theorem dX10_comes_57 : decode cX10_comes 57 = .ok (.iload_n 1, 1) := by decide +kernel
theorem dX10_comes_58 : decode cX10_comes 58 = .ok (.iload_n 3, 1) := by decide +kernel
theorem dX10_comes_59 : decode cX10_comes 59 = .ok (.iconst 2, 1) := by decide +kernel
theorem dX10_comes_60 : decode cX10_comes 60 = .ok (.iload 6, 2) := by decide +kernel
theorem dX10_comes_62 : decode cX10_comes 62 = .ok (.imul, 1) := by decide +kernel
theorem dX10_comes_63 : decode cX10_comes 63 = .ok (.iadd, 1) := by decide +kernel
theorem dX10_comes_64 : decode cX10_comes 64 = .ok (.iconst 1, 1) := by decide +kernel
theorem dX10_comes_65 : decode cX10_comes 65 = .ok (.iadd, 1) := by decide +kernel
theorem dX10_comes_66 : decode cX10_comes 66 = .ok (.invokevirtual 109, 3) := by decide +kernel
theorem dX10_comes_69 : decode cX10_comes 69 = .ok (.invokestatic 94, 3) := by decide +kernel
theorem dX10_comes_72 : decode cX10_comes 72 = .ok (.ifCond .ne 6, 3) := by decide +kernel
theorem dX10_comes_75 : decode cX10_comes 75 = .ok (.bipush (-2), 2) := by decide +kernel
theorem dX10_comes_77 : decode cX10_comes 77 = .ok (.ireturn, 1) := by decide +kernel
theorem dX10_comes_78 : decode cX10_comes 78 = .ok (.iinc 6 1, 3) := by decide +kernel
theorem dX10_comes_81 : decode cX10_comes 81 = .ok (.goto (-43), 3) := by decide +kernel
theorem dX10_comes_84 : decode cX10_comes 84 = .ok (.aload_n 0, 1) := by decide +kernel
theorem dX10_comes_85 : decode cX10_comes 85 = .ok (.getfield 98, 3) := by decide +kernel
theorem dX10_comes_88 : decode cX10_comes 88 = .ok (.iload 4, 2) := by decide +kernel
theorem dX10_comes_90 : decode cX10_comes 90 = .ok (.iadd, 1) := by decide +kernel
theorem dX10_comes_91 : decode cX10_comes 91 = .ok (.sipush 1000, 3) := by decide +kernel
theorem dX10_comes_94 : decode cX10_comes 94 = .ok (.if_icmp .le 6, 3) := by decide +kernel
theorem dX10_comes_97 : decode cX10_comes 97 = .ok (.bipush (-3), 2) := by decide +kernel
theorem dX10_comes_99 : decode cX10_comes 99 = .ok (.ireturn, 1) := by decide +kernel
theorem dX10_comes_100 : decode cX10_comes 100 = .ok (.iload 4, 2) := by decide +kernel
theorem dX10_comes_102 : decode cX10_comes 102 = .ok (.ifCond .ne 8, 3) := by decide +kernel
theorem dX10_comes_105 : decode cX10_comes 105 = .ok (.bipush (-4), 2) := by decide +kernel
theorem dX10_comes_107 : decode cX10_comes 107 = .ok (.goto 7, 3) := by decide +kernel
theorem dX10_comes_110 : decode cX10_comes 110 = .ok (.aload_n 0, 1) := by decide +kernel
theorem dX10_comes_111 : decode cX10_comes 111 = .ok (.getfield 98, 3) := by decide +kernel
theorem dX10_comes_114 : decode cX10_comes 114 = .ok (.istore 6, 2) := by decide +kernel
theorem dX10_comes_116 : decode cX10_comes 116 = .ok (.iconst 0, 1) := by decide +kernel
theorem dX10_comes_117 : decode cX10_comes 117 = .ok (.istore 7, 2) := by decide +kernel
theorem dX10_comes_119 : decode cX10_comes 119 = .ok (.iload 7, 2) := by decide +kernel
theorem dX10_comes_121 : decode cX10_comes 121 = .ok (.iload 4, 2) := by decide +kernel
theorem dX10_comes_123 : decode cX10_comes 123 = .ok (.if_icmp .ge 38, 3) := by decide +kernel
theorem dX10_comes_126 : decode cX10_comes 126 = .ok (.aload_n 0, 1) := by decide +kernel
theorem dX10_comes_127 : decode cX10_comes 127 = .ok (.aload_n 0, 1) := by decide +kernel
theorem dX10_comes_128 : decode cX10_comes 128 = .ok (.iload_n 1, 1) := by decide +kernel
theorem dX10_comes_129 : decode cX10_comes 129 = .ok (.iload_n 3, 1) := by decide +kernel
theorem dX10_comes_130 : decode cX10_comes 130 = .ok (.iconst 2, 1) := by decide +kernel
theorem dX10_comes_131 : decode cX10_comes 131 = .ok (.iload 7, 2) := by decide +kernel
theorem dX10_comes_133 : decode cX10_comes 133 = .ok (.imul, 1) := by decide +kernel
theorem dX10_comes_134 : decode cX10_comes 134 = .ok (.iadd, 1) := by decide +kernel
theorem dX10_comes_135 : decode cX10_comes 135 = .ok (.invokevirtual 109, 3) := by decide +kernel
theorem dX10_comes_138 : decode cX10_comes 138 = .ok (.aload_n 0, 1) := by decide +kernel
theorem dX10_comes_139 : decode cX10_comes 139 = .ok (.iload_n 1, 1) := by decide +kernel
theorem dX10_comes_140 : decode cX10_comes 140 = .ok (.iload_n 3, 1) := by decide +kernel
theorem dX10_comes_141 : decode cX10_comes 141 = .ok (.iconst 2, 1) := by decide +kernel
theorem dX10_comes_142 : decode cX10_comes 142 = .ok (.iload 7, 2) := by decide +kernel
theorem dX10_comes_144 : decode cX10_comes 144 = .ok (.imul, 1) := by decide +kernel
theorem dX10_comes_145 : decode cX10_comes 145 = .ok (.iadd, 1) := by decide +kernel
theorem dX10_comes_146 : decode cX10_comes 146 = .ok (.iconst 1, 1) := by decide +kernel
theorem dX10_comes_147 : decode cX10_comes 147 = .ok (.iadd, 1) := by decide +kernel
theorem dX10_comes_148 : decode cX10_comes 148 = .ok (.invokevirtual 109, 3) := by decide +kernel
theorem dX10_comes_151 : decode cX10_comes 151 = .ok (.invokevirtual 102, 3) := by decide +kernel
theorem dX10_comes_154 : decode cX10_comes 154 = .ok (.pop, 1) := by decide +kernel
theorem dX10_comes_155 : decode cX10_comes 155 = .ok (.iinc 7 1, 3) := by decide +kernel
theorem dX10_comes_158 : decode cX10_comes 158 = .ok (.goto (-39), 3) := by decide +kernel
theorem dX10_comes_161 : decode cX10_comes 161 = .ok (.iload 6, 2) := by decide +kernel
theorem dX10_comes_163 : decode cX10_comes 163 = .ok (.ireturn, 1) := by decide +kernel
theorem dX10_type_0 : decode cX10_type 0 = .ok (.iload_n 3, 1) := by decide +kernel
theorem dX10_type_1 : decode cX10_type 1 = .ok (.iconst 1, 1) := by decide +kernel
theorem dX10_type_2 : decode cX10_type 2 = .ok (.if_icmp .lt 17, 3) := by decide +kernel
theorem dX10_type_5 : decode cX10_type 5 = .ok (.iload_n 3, 1) := by decide +kernel
theorem dX10_type_6 : decode cX10_type 6 = .ok (.bipush 8, 2) := by decide +kernel
theorem dX10_type_8 : decode cX10_type 8 = .ok (.if_icmp .gt 11, 3) := by decide +kernel
theorem dX10_type_11 : decode cX10_type 11 = .ok (.lload_n 1, 1) := by decide +kernel
theorem dX10_type_12 : decode cX10_type 12 = .ok (.iload_n 3, 1) := by decide +kernel
theorem dX10_type_13 : decode cX10_type 13 = .ok (.invokestatic 112, 3) := by decide +kernel
theorem dX10_type_16 : decode cX10_type 16 = .ok (.ifCond .ne 5, 3) := by decide +kernel
theorem dX10_type_19 : decode cX10_type 19 = .ok (.iconst (-1), 1) := by decide +kernel
theorem dX10_type_20 : decode cX10_type 20 = .ok (.ireturn, 1) := by decide +kernel
theorem dX10_type_21 : decode cX10_type 21 = .ok (.aload_n 0, 1) := by decide +kernel
theorem dX10_type_22 : decode cX10_type 22 = .ok (.getfield 30, 3) := by decide +kernel
theorem dX10_type_25 : decode cX10_type 25 = .ok (.iload_n 3, 1) := by decide +kernel
theorem dX10_type_26 : decode cX10_type 26 = .ok (.invokevirtual 116, 3) := by decide +kernel
theorem dX10_type_29 : decode cX10_type 29 = .ok (.ifCond .eq 15, 3) := by decide +kernel
theorem dX10_type_32 : decode cX10_type 32 = .ok (.aload_n 0, 1) := by decide +kernel
theorem dX10_type_33 : decode cX10_type 33 = .ok (.getfield 30, 3) := by decide +kernel
theorem dX10_type_36 : decode cX10_type 36 = .ok (.lload_n 1, 1) := by decide +kernel
theorem dX10_type_37 : decode cX10_type 37 = .ok (.iload_n 3, 1) := by decide +kernel
theorem dX10_type_38 : decode cX10_type 38 = .ok (.invokevirtual 120, 3) := by decide +kernel
theorem dX10_type_41 : decode cX10_type 41 = .ok (.goto 5, 3) := by decide +kernel
theorem dX10_type_44 : decode cX10_type 44 = .ok (.bipush (-3), 2) := by decide +kernel
theorem dX10_type_46 : decode cX10_type 46 = .ok (.ireturn, 1) := by decide +kernel
theorem dX10_rule_0 : decode cX10_rule 0 = .ok (.iload_n 1, 1) := by decide +kernel
theorem dX10_rule_1 : decode cX10_rule 1 = .ok (.ifCond .eq 10, 3) := by decide +kernel
theorem dX10_rule_4 : decode cX10_rule 4 = .ok (.iload_n 1, 1) := by decide +kernel
theorem dX10_rule_5 : decode cX10_rule 5 = .ok (.iconst 1, 1) := by decide +kernel
theorem dX10_rule_6 : decode cX10_rule 6 = .ok (.if_icmp .eq 5, 3) := by decide +kernel
theorem dX10_rule_9 : decode cX10_rule 9 = .ok (.iconst (-1), 1) := by decide +kernel
theorem dX10_rule_10 : decode cX10_rule 10 = .ok (.ireturn, 1) := by decide +kernel
theorem dX10_rule_11 : decode cX10_rule 11 = .ok (.aload_n 0, 1) := by decide +kernel
theorem dX10_rule_12 : decode cX10_rule 12 = .ok (.getfield 30, 3) := by decide +kernel
theorem dX10_rule_15 : decode cX10_rule 15 = .ok (.aload_n 0, 1) := by decide +kernel
theorem dX10_rule_16 : decode cX10_rule 16 = .ok (.getfield 34, 3) := by decide +kernel
theorem dX10_rule_19 : decode cX10_rule 19 = .ok (.invokevirtual 124, 3) := by decide +kernel
theorem dX10_rule_22 : decode cX10_rule 22 = .ok (.istore_n 2, 1) := by decide +kernel
theorem dX10_rule_23 : decode cX10_rule 23 = .ok (.aload_n 0, 1) := by decide +kernel
theorem dX10_rule_24 : decode cX10_rule 24 = .ok (.getfield 30, 3) := by decide +kernel
theorem dX10_rule_27 : decode cX10_rule 27 = .ok (.invokevirtual 128, 3) := by decide +kernel
theorem dX10_rule_30 : decode cX10_rule 30 = .ok (.iload_n 2, 1) := by decide +kernel
theorem dX10_rule_31 : decode cX10_rule 31 = .ok (.ifCond .le 25, 3) := by decide +kernel
theorem dX10_rule_34 : decode cX10_rule 34 = .ok (.iload_n 1, 1) := by decide +kernel
theorem dX10_rule_35 : decode cX10_rule 35 = .ok (.ifCond .ne 10, 3) := by decide +kernel
theorem dX10_rule_38 : decode cX10_rule 38 = .ok (.aload_n 0, 1) := by decide +kernel
theorem dX10_rule_39 : decode cX10_rule 39 = .ok (.getfield 43, 3) := by decide +kernel
theorem dX10_rule_42 : decode cX10_rule 42 = .ok (.goto 7, 3) := by decide +kernel
theorem dX10_rule_45 : decode cX10_rule 45 = .ok (.aload_n 0, 1) := by decide +kernel
theorem dX10_rule_46 : decode cX10_rule 46 = .ok (.getfield 47, 3) := by decide +kernel
theorem dX10_rule_49 : decode cX10_rule 49 = .ok (.aload_n 0, 1) := by decide +kernel
theorem dX10_rule_50 : decode cX10_rule 50 = .ok (.getfield 34, 3) := by decide +kernel
theorem dX10_rule_53 : decode cX10_rule 53 = .ok (.invokevirtual 131, 3) := by decide +kernel
theorem dX10_rule_56 : decode cX10_rule 56 = .ok (.iload_n 2, 1) := by decide +kernel
theorem dX10_rule_57 : decode cX10_rule 57 = .ok (.ireturn, 1) := by decide +kernel
theorem dX10_told_0 : decode cX10_told 0 = .ok (.aload_n 0, 1) := by decide +kernel
theorem dX10_told_1 : decode cX10_told 1 = .ok (.iload_n 1, 1) := by decide +kernel
theorem dX10_told_2 : decode cX10_told 2 = .ok (.invokevirtual 135, 3) := by decide +kernel
theorem dX10_told_5 : decode cX10_told 5 = .ok (.astore_n 3, 1) := by decide +kernel
theorem dX10_told_6 : decode cX10_told 6 = .ok (.aload_n 3, 1) := by decide +kernel
theorem dX10_told_7 : decode cX10_told 7 = .ok (.ifnonnull 5, 3) := by decide +kernel
theorem dX10_told_10 : decode cX10_told 10 = .ok (.iconst (-1), 1) := by decide +kernel
theorem dX10_told_11 : decode cX10_told 11 = .ok (.ireturn, 1) := by decide +kernel
theorem dX10_told_12 : decode cX10_told 12 = .ok (.iload_n 2, 1) := by decide +kernel
theorem dX10_told_13 : decode cX10_told 13 = .ok (.tableswitch 117 0 9 #[55, 60, 65, 70, 75, 80, 85, 90, 95, 112], 55) := by decide +kernel
theorem dX10_told_68 : decode cX10_told 68 = .ok (.aload_n 3, 1) := by decide +kernel
theorem dX10_told_69 : decode cX10_told 69 = .ok (.getfield 139, 3) := by decide +kernel
theorem dX10_told_72 : decode cX10_told 72 = .ok (.ireturn, 1) := by decide +kernel
theorem dX10_told_73 : decode cX10_told 73 = .ok (.aload_n 3, 1) := by decide +kernel
theorem dX10_told_74 : decode cX10_told 74 = .ok (.getfield 142, 3) := by decide +kernel
theorem dX10_told_77 : decode cX10_told 77 = .ok (.ireturn, 1) := by decide +kernel
theorem dX10_told_78 : decode cX10_told 78 = .ok (.aload_n 3, 1) := by decide +kernel
theorem dX10_told_79 : decode cX10_told 79 = .ok (.getfield 145, 3) := by decide +kernel
theorem dX10_told_82 : decode cX10_told 82 = .ok (.ireturn, 1) := by decide +kernel
theorem dX10_told_83 : decode cX10_told 83 = .ok (.aload_n 3, 1) := by decide +kernel
theorem dX10_told_84 : decode cX10_told 84 = .ok (.getfield 148, 3) := by decide +kernel
theorem dX10_told_87 : decode cX10_told 87 = .ok (.ireturn, 1) := by decide +kernel
theorem dX10_told_88 : decode cX10_told 88 = .ok (.aload_n 3, 1) := by decide +kernel
theorem dX10_told_89 : decode cX10_told 89 = .ok (.getfield 151, 3) := by decide +kernel
theorem dX10_told_92 : decode cX10_told 92 = .ok (.ireturn, 1) := by decide +kernel
theorem dX10_told_93 : decode cX10_told 93 = .ok (.aload_n 3, 1) := by decide +kernel
theorem dX10_told_94 : decode cX10_told 94 = .ok (.getfield 154, 3) := by decide +kernel
theorem dX10_told_97 : decode cX10_told 97 = .ok (.ireturn, 1) := by decide +kernel
theorem dX10_told_98 : decode cX10_told 98 = .ok (.aload_n 3, 1) := by decide +kernel
theorem dX10_told_99 : decode cX10_told 99 = .ok (.getfield 157, 3) := by decide +kernel
theorem dX10_told_102 : decode cX10_told 102 = .ok (.ireturn, 1) := by decide +kernel
theorem dX10_told_103 : decode cX10_told 103 = .ok (.aload_n 3, 1) := by decide +kernel
theorem dX10_told_104 : decode cX10_told 104 = .ok (.getfield 160, 3) := by decide +kernel
theorem dX10_told_107 : decode cX10_told 107 = .ok (.ireturn, 1) := by decide +kernel
theorem dX10_told_108 : decode cX10_told 108 = .ok (.aload_n 3, 1) := by decide +kernel
theorem dX10_told_109 : decode cX10_told 109 = .ok (.invokevirtual 163, 3) := by decide +kernel
theorem dX10_told_112 : decode cX10_told 112 = .ok (.ifCond .eq 10, 3) := by decide +kernel
theorem dX10_told_115 : decode cX10_told 115 = .ok (.aload_n 3, 1) := by decide +kernel
theorem dX10_told_116 : decode cX10_told 116 = .ok (.getfield 167, 3) := by decide +kernel
theorem dX10_told_119 : decode cX10_told 119 = .ok (.goto 5, 3) := by decide +kernel
theorem dX10_told_122 : decode cX10_told 122 = .ok (.bipush (-4), 2) := by decide +kernel
theorem dX10_told_124 : decode cX10_told 124 = .ok (.ireturn, 1) := by decide +kernel
theorem dX10_told_125 : decode cX10_told 125 = .ok (.aload_n 3, 1) := by decide +kernel
theorem dX10_told_126 : decode cX10_told 126 = .ok (.getfield 170, 3) := by decide +kernel
theorem dX10_told_129 : decode cX10_told 129 = .ok (.ireturn, 1) := by decide +kernel
theorem dX10_told_130 : decode cX10_told 130 = .ok (.iconst (-1), 1) := by decide +kernel
theorem dX10_told_131 : decode cX10_told 131 = .ok (.ireturn, 1) := by decide +kernel
theorem dX10_rank_0 : decode cX10_rank 0 = .ok (.aload_n 0, 1) := by decide +kernel
theorem dX10_rank_1 : decode cX10_rank 1 = .ok (.iload_n 1, 1) := by decide +kernel
theorem dX10_rank_2 : decode cX10_rank 2 = .ok (.invokevirtual 135, 3) := by decide +kernel
theorem dX10_rank_5 : decode cX10_rank 5 = .ok (.astore_n 3, 1) := by decide +kernel
theorem dX10_rank_6 : decode cX10_rank 6 = .ok (.aload_n 3, 1) := by decide +kernel
theorem dX10_rank_7 : decode cX10_rank 7 = .ok (.ifnull 12, 3) := by decide +kernel
theorem dX10_rank_10 : decode cX10_rank 10 = .ok (.iload_n 2, 1) := by decide +kernel
theorem dX10_rank_11 : decode cX10_rank 11 = .ok (.ifCond .eq 12, 3) := by decide +kernel
theorem dX10_rank_14 : decode cX10_rank 14 = .ok (.iload_n 2, 1) := by decide +kernel
theorem dX10_rank_15 : decode cX10_rank 15 = .ok (.iconst 1, 1) := by decide +kernel
theorem dX10_rank_16 : decode cX10_rank 16 = .ok (.if_icmp .eq 7, 3) := by decide +kernel
theorem dX10_rank_19 : decode cX10_rank 19 = .ok (.ldc2_w 173, 3) := by decide +kernel
theorem dX10_rank_22 : decode cX10_rank 22 = .ok (.lreturn, 1) := by decide +kernel
theorem dX10_rank_23 : decode cX10_rank 23 = .ok (.iload_n 2, 1) := by decide +kernel
theorem dX10_rank_24 : decode cX10_rank 24 = .ok (.ifCond .ne 10, 3) := by decide +kernel
theorem dX10_rank_27 : decode cX10_rank 27 = .ok (.aload_n 0, 1) := by decide +kernel
theorem dX10_rank_28 : decode cX10_rank 28 = .ok (.getfield 43, 3) := by decide +kernel
theorem dX10_rank_31 : decode cX10_rank 31 = .ok (.goto 7, 3) := by decide +kernel
theorem dX10_rank_34 : decode cX10_rank 34 = .ok (.aload_n 0, 1) := by decide +kernel
theorem dX10_rank_35 : decode cX10_rank 35 = .ok (.getfield 47, 3) := by decide +kernel
theorem dX10_rank_38 : decode cX10_rank 38 = .ok (.aload_n 3, 1) := by decide +kernel
theorem dX10_rank_39 : decode cX10_rank 39 = .ok (.invokevirtual 175, 3) := by decide +kernel
theorem dX10_rank_42 : decode cX10_rank 42 = .ok (.lreturn, 1) := by decide +kernel
theorem dX10_full_0 : decode cX10_full 0 = .ok (.iload_n 1, 1) := by decide +kernel
theorem dX10_full_1 : decode cX10_full 1 = .ok (.ifCond .ne 23, 3) := by decide +kernel
theorem dX10_full_4 : decode cX10_full 4 = .ok (.iload_n 2, 1) := by decide +kernel
theorem dX10_full_5 : decode cX10_full 5 = .ok (.iconst 1, 1) := by decide +kernel
theorem dX10_full_6 : decode cX10_full 6 = .ok (.if_icmp .lt 18, 3) := by decide +kernel
theorem dX10_full_9 : decode cX10_full 9 = .ok (.iload_n 2, 1) := by decide +kernel
theorem dX10_full_10 : decode cX10_full 10 = .ok (.bipush 24, 2) := by decide +kernel
theorem dX10_full_12 : decode cX10_full 12 = .ok (.if_icmp .gt 12, 3) := by decide +kernel
theorem dX10_full_15 : decode cX10_full 15 = .ok (.aload_n 0, 1) := by decide +kernel
theorem dX10_full_16 : decode cX10_full 16 = .ok (.getfield 60, 3) := by decide +kernel
theorem dX10_full_19 : decode cX10_full 19 = .ok (.iload_n 2, 1) := by decide +kernel
theorem dX10_full_20 : decode cX10_full 20 = .ok (.invokevirtual 179, 3) := by decide +kernel
theorem dX10_full_23 : decode cX10_full 23 = .ok (.ireturn, 1) := by decide +kernel
theorem dX10_full_24 : decode cX10_full 24 = .ok (.iload_n 1, 1) := by decide +kernel
theorem dX10_full_25 : decode cX10_full 25 = .ok (.iconst 1, 1) := by decide +kernel
theorem dX10_full_26 : decode cX10_full 26 = .ok (.if_icmp .ne 21, 3) := by decide +kernel
theorem dX10_full_29 : decode cX10_full 29 = .ok (.iload_n 2, 1) := by decide +kernel
theorem dX10_full_30 : decode cX10_full 30 = .ok (.ifCond .lt 17, 3) := by decide +kernel
theorem dX10_full_33 : decode cX10_full 33 = .ok (.iload_n 2, 1) := by decide +kernel
theorem dX10_full_34 : decode cX10_full 34 = .ok (.iconst 2, 1) := by decide +kernel
theorem dX10_full_35 : decode cX10_full 35 = .ok (.if_icmp .gt 12, 3) := by decide +kernel
theorem dX10_full_38 : decode cX10_full 38 = .ok (.aload_n 0, 1) := by decide +kernel
theorem dX10_full_39 : decode cX10_full 39 = .ok (.getfield 60, 3) := by decide +kernel
theorem dX10_full_42 : decode cX10_full 42 = .ok (.iload_n 2, 1) := by decide +kernel
theorem dX10_full_43 : decode cX10_full 43 = .ok (.invokevirtual 183, 3) := by decide +kernel
theorem dX10_full_46 : decode cX10_full 46 = .ok (.ireturn, 1) := by decide +kernel
theorem dX10_full_47 : decode cX10_full 47 = .ok (.iconst (-1), 1) := by decide +kernel
theorem dX10_full_48 : decode cX10_full 48 = .ok (.ireturn, 1) := by decide +kernel
theorem dX10_ticks_0 : decode cX10_ticks 0 = .ok (.iload_n 1, 1) := by decide +kernel
theorem dX10_ticks_1 : decode cX10_ticks 1 = .ok (.iconst 1, 1) := by decide +kernel
theorem dX10_ticks_2 : decode cX10_ticks 2 = .ok (.if_icmp .lt 10, 3) := by decide +kernel
theorem dX10_ticks_5 : decode cX10_ticks 5 = .ok (.iload_n 1, 1) := by decide +kernel
theorem dX10_ticks_6 : decode cX10_ticks 6 = .ok (.sipush 500, 3) := by decide +kernel
theorem dX10_ticks_9 : decode cX10_ticks 9 = .ok (.if_icmp .le 5, 3) := by decide +kernel
theorem dX10_ticks_12 : decode cX10_ticks 12 = .ok (.iconst (-1), 1) := by decide +kernel
theorem dX10_ticks_13 : decode cX10_ticks 13 = .ok (.ireturn, 1) := by decide +kernel
theorem dX10_ticks_14 : decode cX10_ticks 14 = .ok (.aload_n 0, 1) := by decide +kernel
theorem dX10_ticks_15 : decode cX10_ticks 15 = .ok (.getfield 60, 3) := by decide +kernel
theorem dX10_ticks_18 : decode cX10_ticks 18 = .ok (.getfield 186, 3) := by decide +kernel
theorem dX10_ticks_21 : decode cX10_ticks 21 = .ok (.iload_n 1, 1) := by decide +kernel
theorem dX10_ticks_22 : decode cX10_ticks 22 = .ok (.iadd, 1) := by decide +kernel
theorem dX10_ticks_23 : decode cX10_ticks 23 = .ok (.ldc 189, 2) := by decide +kernel
theorem dX10_ticks_25 : decode cX10_ticks 25 = .ok (.if_icmp .le 6, 3) := by decide +kernel
theorem dX10_ticks_28 : decode cX10_ticks 28 = .ok (.bipush (-3), 2) := by decide +kernel
theorem dX10_ticks_30 : decode cX10_ticks 30 = .ok (.ireturn, 1) := by decide +kernel
theorem dX10_ticks_31 : decode cX10_ticks 31 = .ok (.aload_n 0, 1) := by decide +kernel
theorem dX10_ticks_32 : decode cX10_ticks 32 = .ok (.getfield 60, 3) := by decide +kernel
theorem dX10_ticks_35 : decode cX10_ticks 35 = .ok (.getfield 186, 3) := by decide +kernel
theorem dX10_ticks_38 : decode cX10_ticks 38 = .ok (.iload_n 1, 1) := by decide +kernel
theorem dX10_ticks_39 : decode cX10_ticks 39 = .ok (.iadd, 1) := by decide +kernel
theorem dX10_ticks_40 : decode cX10_ticks 40 = .ok (.istore_n 2, 1) := by decide +kernel
theorem dX10_ticks_41 : decode cX10_ticks 41 = .ok (.iconst 0, 1) := by decide +kernel
theorem dX10_ticks_42 : decode cX10_ticks 42 = .ok (.istore_n 3, 1) := by decide +kernel
theorem dX10_ticks_43 : decode cX10_ticks 43 = .ok (.iload_n 3, 1) := by decide +kernel
theorem dX10_ticks_44 : decode cX10_ticks 44 = .ok (.iload_n 1, 1) := by decide +kernel
theorem dX10_ticks_45 : decode cX10_ticks 45 = .ok (.if_icmp .ge 58, 3) := by decide +kernel
theorem dX10_ticks_48 : decode cX10_ticks 48 = .ok (.aload_n 0, 1) := by decide +kernel
theorem dX10_ticks_49 : decode cX10_ticks 49 = .ok (.getfield 60, 3) := by decide +kernel
theorem dX10_ticks_52 : decode cX10_ticks 52 = .ok (.getfield 186, 3) := by decide +kernel
theorem dX10_ticks_55 : decode cX10_ticks 55 = .ok (.iload_n 2, 1) := by decide +kernel
theorem dX10_ticks_56 : decode cX10_ticks 56 = .ok (.if_icmp .ge 47, 3) := by decide +kernel
theorem dX10_ticks_59 : decode cX10_ticks 59 = .ok (.aload_n 0, 1) := by decide +kernel
theorem dX10_ticks_60 : decode cX10_ticks 60 = .ok (.getfield 60, 3) := by decide +kernel
theorem dX10_ticks_63 : decode cX10_ticks 63 = .ok (.iload_n 2, 1) := by decide +kernel
theorem dX10_ticks_64 : decode cX10_ticks 64 = .ok (.invokevirtual 190, 3) := by decide +kernel
theorem dX10_ticks_67 : decode cX10_ticks 67 = .ok (.astore 4, 2) := by decide +kernel
theorem dX10_ticks_69 : decode cX10_ticks 69 = .ok (.aload 4, 2) := by decide +kernel
theorem dX10_ticks_71 : decode cX10_ticks 71 = .ok (.ifnull 26, 3) := by decide +kernel
theorem dX10_ticks_74 : decode cX10_ticks 74 = .ok (.aload_n 0, 1) := by decide +kernel
theorem dX10_ticks_75 : decode cX10_ticks 75 = .ok (.getfield 11, 3) := by decide +kernel
theorem dX10_ticks_78 : decode cX10_ticks 78 = .ok (.aload 4, 2) := by decide +kernel
theorem dX10_ticks_80 : decode cX10_ticks 80 = .ok (.getfield 142, 3) := by decide +kernel
theorem dX10_ticks_83 : decode cX10_ticks 83 = .ok (.aaload, 1) := by decide +kernel
theorem dX10_ticks_84 : decode cX10_ticks 84 = .ok (.dup, 1) := by decide +kernel
theorem dX10_ticks_85 : decode cX10_ticks 85 = .ok (.getfield 193, 3) := by decide +kernel
theorem dX10_ticks_88 : decode cX10_ticks 88 = .ok (.aload 4, 2) := by decide +kernel
theorem dX10_ticks_90 : decode cX10_ticks 90 = .ok (.getfield 145, 3) := by decide +kernel
theorem dX10_ticks_93 : decode cX10_ticks 93 = .ok (.iadd, 1) := by decide +kernel
theorem dX10_ticks_94 : decode cX10_ticks 94 = .ok (.putfield 193, 3) := by decide +kernel
theorem dX10_ticks_97 : decode cX10_ticks 97 = .ok (.iinc 3 1, 3) := by decide +kernel
theorem dX10_ticks_100 : decode cX10_ticks 100 = .ok (.goto (-57), 3) := by decide +kernel
theorem dX10_ticks_103 : decode cX10_ticks 103 = .ok (.aload_n 0, 1) := by decide +kernel
theorem dX10_ticks_104 : decode cX10_ticks 104 = .ok (.getfield 60, 3) := by decide +kernel
theorem dX10_ticks_107 : decode cX10_ticks 107 = .ok (.getfield 186, 3) := by decide +kernel
theorem dX10_ticks_110 : decode cX10_ticks 110 = .ok (.ireturn, 1) := by decide +kernel
theorem dX10_next_0 : decode cX10_next 0 = .ok (.aload_n 0, 1) := by decide +kernel
theorem dX10_next_1 : decode cX10_next 1 = .ok (.getfield 60, 3) := by decide +kernel
theorem dX10_next_4 : decode cX10_next 4 = .ok (.getfield 196, 3) := by decide +kernel
theorem dX10_next_7 : decode cX10_next 7 = .ok (.aload_n 0, 1) := by decide +kernel
theorem dX10_next_8 : decode cX10_next 8 = .ok (.getfield 60, 3) := by decide +kernel
theorem dX10_next_11 : decode cX10_next 11 = .ok (.getfield 186, 3) := by decide +kernel
theorem dX10_next_14 : decode cX10_next 14 = .ok (.invokevirtual 200, 3) := by decide +kernel
theorem dX10_next_17 : decode cX10_next 17 = .ok (.astore_n 1, 1) := by decide +kernel
theorem dX10_next_18 : decode cX10_next 18 = .ok (.aload_n 1, 1) := by decide +kernel
theorem dX10_next_19 : decode cX10_next 19 = .ok (.ifnonnull 8, 3) := by decide +kernel
theorem dX10_next_22 : decode cX10_next 22 = .ok (.bipush (-4), 2) := by decide +kernel
theorem dX10_next_24 : decode cX10_next 24 = .ok (.goto 7, 3) := by decide +kernel
theorem dX10_next_27 : decode cX10_next 27 = .ok (.aload_n 1, 1) := by decide +kernel
theorem dX10_next_28 : decode cX10_next 28 = .ok (.getfield 203, 3) := by decide +kernel
theorem dX10_next_31 : decode cX10_next 31 = .ok (.ireturn, 1) := by decide +kernel
theorem dX10_count_0 : decode cX10_count 0 = .ok (.iload_n 1, 1) := by decide +kernel
theorem dX10_count_1 : decode cX10_count 1 = .ok (.tableswitch 132 0 7 #[47, 52, 66, 82, 90, 98, 116, 124], 47) := by decide +kernel
theorem dX10_count_48 : decode cX10_count 48 = .ok (.aload_n 0, 1) := by decide +kernel
theorem dX10_count_49 : decode cX10_count 49 = .ok (.getfield 98, 3) := by decide +kernel
theorem dX10_count_52 : decode cX10_count 52 = .ok (.ireturn, 1) := by decide +kernel
theorem dX10_count_53 : decode cX10_count 53 = .ok (.aload_n 0, 1) := by decide +kernel
theorem dX10_count_54 : decode cX10_count 54 = .ok (.getfield 60, 3) := by decide +kernel
theorem dX10_count_57 : decode cX10_count 57 = .ok (.getfield 196, 3) := by decide +kernel
theorem dX10_count_60 : decode cX10_count 60 = .ok (.getfield 206, 3) := by decide +kernel
theorem dX10_count_63 : decode cX10_count 63 = .ok (.getfield 210, 3) := by decide +kernel
theorem dX10_count_66 : decode cX10_count 66 = .ok (.ireturn, 1) := by decide +kernel
theorem dX10_count_67 : decode cX10_count 67 = .ok (.aload_n 0, 1) := by decide +kernel
theorem dX10_count_68 : decode cX10_count 68 = .ok (.getfield 60, 3) := by decide +kernel
theorem dX10_count_71 : decode cX10_count 71 = .ok (.getfield 215, 3) := by decide +kernel
theorem dX10_count_74 : decode cX10_count 74 = .ok (.ifnonnull 7, 3) := by decide +kernel
theorem dX10_count_77 : decode cX10_count 77 = .ok (.iconst 0, 1) := by decide +kernel
theorem dX10_count_78 : decode cX10_count 78 = .ok (.goto 4, 3) := by decide +kernel
theorem dX10_count_81 : decode cX10_count 81 = .ok (.iconst 1, 1) := by decide +kernel
theorem dX10_count_82 : decode cX10_count 82 = .ok (.ireturn, 1) := by decide +kernel
theorem dX10_count_83 : decode cX10_count 83 = .ok (.aload_n 0, 1) := by decide +kernel
theorem dX10_count_84 : decode cX10_count 84 = .ok (.getfield 60, 3) := by decide +kernel
theorem dX10_count_87 : decode cX10_count 87 = .ok (.getfield 219, 3) := by decide +kernel
theorem dX10_count_90 : decode cX10_count 90 = .ok (.ireturn, 1) := by decide +kernel
theorem dX10_count_91 : decode cX10_count 91 = .ok (.aload_n 0, 1) := by decide +kernel
theorem dX10_count_92 : decode cX10_count 92 = .ok (.getfield 60, 3) := by decide +kernel
theorem dX10_count_95 : decode cX10_count 95 = .ok (.getfield 222, 3) := by decide +kernel
theorem dX10_count_98 : decode cX10_count 98 = .ok (.ireturn, 1) := by decide +kernel
theorem dX10_count_99 : decode cX10_count 99 = .ok (.aload_n 0, 1) := by decide +kernel
theorem dX10_count_100 : decode cX10_count 100 = .ok (.getfield 60, 3) := by decide +kernel
theorem dX10_count_103 : decode cX10_count 103 = .ok (.getfield 196, 3) := by decide +kernel
theorem dX10_count_106 : decode cX10_count 106 = .ok (.aload_n 0, 1) := by decide +kernel
theorem dX10_count_107 : decode cX10_count 107 = .ok (.getfield 60, 3) := by decide +kernel
theorem dX10_count_110 : decode cX10_count 110 = .ok (.getfield 186, 3) := by decide +kernel
theorem dX10_count_113 : decode cX10_count 113 = .ok (.invokevirtual 225, 3) := by decide +kernel
theorem dX10_count_116 : decode cX10_count 116 = .ok (.ireturn, 1) := by decide +kernel
theorem dX10_count_117 : decode cX10_count 117 = .ok (.aload_n 0, 1) := by decide +kernel
theorem dX10_count_118 : decode cX10_count 118 = .ok (.getfield 60, 3) := by decide +kernel
theorem dX10_count_121 : decode cX10_count 121 = .ok (.getfield 186, 3) := by decide +kernel
theorem dX10_count_124 : decode cX10_count 124 = .ok (.ireturn, 1) := by decide +kernel
theorem dX10_count_125 : decode cX10_count 125 = .ok (.aload_n 0, 1) := by decide +kernel
theorem dX10_count_126 : decode cX10_count 126 = .ok (.getfield 60, 3) := by decide +kernel
theorem dX10_count_129 : decode cX10_count 129 = .ok (.getfield 228, 3) := by decide +kernel
theorem dX10_count_132 : decode cX10_count 132 = .ok (.ireturn, 1) := by decide +kernel
theorem dX10_count_133 : decode cX10_count 133 = .ok (.iconst (-1), 1) := by decide +kernel
theorem dX10_count_134 : decode cX10_count 134 = .ok (.ireturn, 1) := by decide +kernel
theorem dX10_sent_0 : decode cX10_sent 0 = .ok (.iload_n 1, 1) := by decide +kernel
theorem dX10_sent_1 : decode cX10_sent 1 = .ok (.ifCond .ge 5, 3) := by decide +kernel
theorem dX10_sent_4 : decode cX10_sent 4 = .ok (.iconst (-1), 1) := by decide +kernel
theorem dX10_sent_5 : decode cX10_sent 5 = .ok (.ireturn, 1) := by decide +kernel
theorem dX10_sent_6 : decode cX10_sent 6 = .ok (.aload_n 0, 1) := by decide +kernel
theorem dX10_sent_7 : decode cX10_sent 7 = .ok (.getfield 60, 3) := by decide +kernel
theorem dX10_sent_10 : decode cX10_sent 10 = .ok (.iload_n 1, 1) := by decide +kernel
theorem dX10_sent_11 : decode cX10_sent 11 = .ok (.invokevirtual 231, 3) := by decide +kernel
theorem dX10_sent_14 : decode cX10_sent 14 = .ok (.astore_n 2, 1) := by decide +kernel
theorem dX10_sent_15 : decode cX10_sent 15 = .ok (.aload_n 2, 1) := by decide +kernel
theorem dX10_sent_16 : decode cX10_sent 16 = .ok (.ifnonnull 8, 3) := by decide +kernel
theorem dX10_sent_19 : decode cX10_sent 19 = .ok (.bipush (-4), 2) := by decide +kernel
theorem dX10_sent_21 : decode cX10_sent 21 = .ok (.goto 7, 3) := by decide +kernel
theorem dX10_sent_24 : decode cX10_sent 24 = .ok (.aload_n 2, 1) := by decide +kernel
theorem dX10_sent_25 : decode cX10_sent 25 = .ok (.getfield 203, 3) := by decide +kernel
theorem dX10_sent_28 : decode cX10_sent 28 = .ok (.ireturn, 1) := by decide +kernel
theorem dX10_late_0 : decode cX10_late 0 = .ok (.aload_n 0, 1) := by decide +kernel
theorem dX10_late_1 : decode cX10_late 1 = .ok (.iload_n 1, 1) := by decide +kernel
theorem dX10_late_2 : decode cX10_late 2 = .ok (.invokevirtual 135, 3) := by decide +kernel
theorem dX10_late_5 : decode cX10_late 5 = .ok (.astore_n 2, 1) := by decide +kernel
theorem dX10_late_6 : decode cX10_late 6 = .ok (.aload_n 2, 1) := by decide +kernel
theorem dX10_late_7 : decode cX10_late 7 = .ok (.ifnonnull 6, 3) := by decide +kernel
theorem dX10_late_10 : decode cX10_late 10 = .ok (.ldc 234, 2) := by decide +kernel
theorem dX10_late_12 : decode cX10_late 12 = .ok (.ireturn, 1) := by decide +kernel
theorem dX10_late_13 : decode cX10_late 13 = .ok (.aload_n 2, 1) := by decide +kernel
theorem dX10_late_14 : decode cX10_late 14 = .ok (.getfield 139, 3) := by decide +kernel
theorem dX10_late_17 : decode cX10_late 17 = .ok (.iconst 2, 1) := by decide +kernel
theorem dX10_late_18 : decode cX10_late 18 = .ok (.if_icmp .ne 19, 3) := by decide +kernel
theorem dX10_late_21 : decode cX10_late 21 = .ok (.aload_n 2, 1) := by decide +kernel
theorem dX10_late_22 : decode cX10_late 22 = .ok (.aload_n 2, 1) := by decide +kernel
theorem dX10_late_23 : decode cX10_late 23 = .ok (.getfield 167, 3) := by decide +kernel
theorem dX10_late_26 : decode cX10_late 26 = .ok (.aload_n 2, 1) := by decide +kernel
theorem dX10_late_27 : decode cX10_late 27 = .ok (.getfield 145, 3) := by decide +kernel
theorem dX10_late_30 : decode cX10_late 30 = .ok (.iadd, 1) := by decide +kernel
theorem dX10_late_31 : decode cX10_late 31 = .ok (.invokevirtual 235, 3) := by decide +kernel
theorem dX10_late_34 : decode cX10_late 34 = .ok (.goto 5, 3) := by decide +kernel
theorem dX10_late_37 : decode cX10_late 37 = .ok (.ldc 238, 2) := by decide +kernel
theorem dX10_late_39 : decode cX10_late 39 = .ok (.ireturn, 1) := by decide +kernel
theorem dX10_behind_0 : decode cX10_behind 0 = .ok (.aload_n 0, 1) := by decide +kernel
theorem dX10_behind_1 : decode cX10_behind 1 = .ok (.iload_n 1, 1) := by decide +kernel
theorem dX10_behind_2 : decode cX10_behind 2 = .ok (.invokevirtual 135, 3) := by decide +kernel
theorem dX10_behind_5 : decode cX10_behind 5 = .ok (.astore_n 3, 1) := by decide +kernel
theorem dX10_behind_6 : decode cX10_behind 6 = .ok (.aload_n 3, 1) := by decide +kernel
theorem dX10_behind_7 : decode cX10_behind 7 = .ok (.ifnull 8, 3) := by decide +kernel
theorem dX10_behind_10 : decode cX10_behind 10 = .ok (.iload_n 2, 1) := by decide +kernel
theorem dX10_behind_11 : decode cX10_behind 11 = .ok (.iconst (-1), 1) := by decide +kernel
theorem dX10_behind_12 : decode cX10_behind 12 = .ok (.if_icmp .ge 5, 3) := by decide +kernel
theorem dX10_behind_15 : decode cX10_behind 15 = .ok (.iconst (-1), 1) := by decide +kernel
theorem dX10_behind_16 : decode cX10_behind 16 = .ok (.ireturn, 1) := by decide +kernel
theorem dX10_behind_17 : decode cX10_behind 17 = .ok (.aload_n 3, 1) := by decide +kernel
theorem dX10_behind_18 : decode cX10_behind 18 = .ok (.invokevirtual 163, 3) := by decide +kernel
theorem dX10_behind_21 : decode cX10_behind 21 = .ok (.ifCond .ne 6, 3) := by decide +kernel
theorem dX10_behind_24 : decode cX10_behind 24 = .ok (.bipush (-2), 2) := by decide +kernel
theorem dX10_behind_26 : decode cX10_behind 26 = .ok (.ireturn, 1) := by decide +kernel
theorem dX10_behind_27 : decode cX10_behind 27 = .ok (.iload_n 2, 1) := by decide +kernel
theorem dX10_behind_28 : decode cX10_behind 28 = .ok (.iconst (-1), 1) := by decide +kernel
theorem dX10_behind_29 : decode cX10_behind 29 = .ok (.if_icmp .ne 14, 3) := by decide +kernel
theorem dX10_behind_32 : decode cX10_behind 32 = .ok (.aload_n 0, 1) := by decide +kernel
theorem dX10_behind_33 : decode cX10_behind 33 = .ok (.getfield 60, 3) := by decide +kernel
theorem dX10_behind_36 : decode cX10_behind 36 = .ok (.aload_n 3, 1) := by decide +kernel
theorem dX10_behind_37 : decode cX10_behind 37 = .ok (.invokevirtual 239, 3) := by decide +kernel
theorem dX10_behind_40 : decode cX10_behind 40 = .ok (.goto 12, 3) := by decide +kernel
theorem dX10_behind_43 : decode cX10_behind 43 = .ok (.aload_n 0, 1) := by decide +kernel
theorem dX10_behind_44 : decode cX10_behind 44 = .ok (.getfield 60, 3) := by decide +kernel
theorem dX10_behind_47 : decode cX10_behind 47 = .ok (.aload_n 3, 1) := by decide +kernel
theorem dX10_behind_48 : decode cX10_behind 48 = .ok (.iload_n 2, 1) := by decide +kernel
theorem dX10_behind_49 : decode cX10_behind 49 = .ok (.invokevirtual 243, 3) := by decide +kernel
theorem dX10_behind_52 : decode cX10_behind 52 = .ok (.ireturn, 1) := by decide +kernel
theorem dX10_promise_0 : decode cX10_promise 0 = .ok (.aload_n 0, 1) := by decide +kernel
theorem dX10_promise_1 : decode cX10_promise 1 = .ok (.iload_n 1, 1) := by decide +kernel
theorem dX10_promise_2 : decode cX10_promise 2 = .ok (.invokevirtual 80, 3) := by decide +kernel
theorem dX10_promise_5 : decode cX10_promise 5 = .ok (.astore_n 3, 1) := by decide +kernel
theorem dX10_promise_6 : decode cX10_promise 6 = .ok (.aload_n 3, 1) := by decide +kernel
theorem dX10_promise_7 : decode cX10_promise 7 = .ok (.ifnull 14, 3) := by decide +kernel
theorem dX10_promise_10 : decode cX10_promise 10 = .ok (.iload_n 2, 1) := by decide +kernel
theorem dX10_promise_11 : decode cX10_promise 11 = .ok (.iconst 1, 1) := by decide +kernel
theorem dX10_promise_12 : decode cX10_promise 12 = .ok (.if_icmp .lt 9, 3) := by decide +kernel
theorem dX10_promise_15 : decode cX10_promise 15 = .ok (.iload_n 2, 1) := by decide +kernel
theorem dX10_promise_16 : decode cX10_promise 16 = .ok (.bipush 99, 2) := by decide +kernel
theorem dX10_promise_18 : decode cX10_promise 18 = .ok (.if_icmp .le 5, 3) := by decide +kernel
theorem dX10_promise_21 : decode cX10_promise 21 = .ok (.iconst (-1), 1) := by decide +kernel
theorem dX10_promise_22 : decode cX10_promise 22 = .ok (.ireturn, 1) := by decide +kernel
theorem dX10_promise_23 : decode cX10_promise 23 = .ok (.aload_n 3, 1) := by decide +kernel
theorem dX10_promise_24 : decode cX10_promise 24 = .ok (.getfield 247, 3) := by decide +kernel
theorem dX10_promise_27 : decode cX10_promise 27 = .ok (.iconst 0, 1) := by decide +kernel
theorem dX10_promise_28 : decode cX10_promise 28 = .ok (.iaload, 1) := by decide +kernel
theorem dX10_promise_29 : decode cX10_promise 29 = .ok (.istore 4, 2) := by decide +kernel
theorem dX10_promise_31 : decode cX10_promise 31 = .ok (.aload_n 0, 1) := by decide +kernel
theorem dX10_promise_32 : decode cX10_promise 32 = .ok (.iload 4, 2) := by decide +kernel
theorem dX10_promise_34 : decode cX10_promise 34 = .ok (.iconst 1, 1) := by decide +kernel
theorem dX10_promise_35 : decode cX10_promise 35 = .ok (.isub, 1) := by decide +kernel
theorem dX10_promise_36 : decode cX10_promise 36 = .ok (.bipush 6, 2) := by decide +kernel
theorem dX10_promise_38 : decode cX10_promise 38 = .ok (.invokevirtual 250, 3) := by decide +kernel
theorem dX10_promise_41 : decode cX10_promise 41 = .ok (.istore 5, 2) := by decide +kernel
theorem dX10_promise_43 : decode cX10_promise 43 = .ok (.aload_n 0, 1) := by decide +kernel
theorem dX10_promise_44 : decode cX10_promise 44 = .ok (.iload 4, 2) := by decide +kernel
theorem dX10_promise_46 : decode cX10_promise 46 = .ok (.bipush 6, 2) := by decide +kernel
theorem dX10_promise_48 : decode cX10_promise 48 = .ok (.invokevirtual 250, 3) := by decide +kernel
theorem dX10_promise_51 : decode cX10_promise 51 = .ok (.bipush 16, 2) := by decide +kernel
theorem dX10_promise_53 : decode cX10_promise 53 = .ok (.if_icmp .gt 10, 3) := by decide +kernel
theorem dX10_promise_56 : decode cX10_promise 56 = .ok (.iload 5, 2) := by decide +kernel
theorem dX10_promise_58 : decode cX10_promise 58 = .ok (.bipush 16, 2) := by decide +kernel
theorem dX10_promise_60 : decode cX10_promise 60 = .ok (.if_icmp .lt 6, 3) := by decide +kernel
theorem dX10_promise_63 : decode cX10_promise 63 = .ok (.bipush (-4), 2) := by decide +kernel
theorem dX10_promise_65 : decode cX10_promise 65 = .ok (.ireturn, 1) := by decide +kernel
theorem dX10_promise_66 : decode cX10_promise 66 = .ok (.bipush 16, 2) := by decide +kernel
theorem dX10_promise_68 : decode cX10_promise 68 = .ok (.iload 5, 2) := by decide +kernel
theorem dX10_promise_70 : decode cX10_promise 70 = .ok (.isub, 1) := by decide +kernel
theorem dX10_promise_71 : decode cX10_promise 71 = .ok (.istore 6, 2) := by decide +kernel
theorem dX10_promise_73 : decode cX10_promise 73 = .ok (.bipush 16, 2) := by decide +kernel
theorem dX10_promise_75 : decode cX10_promise 75 = .ok (.aload_n 0, 1) := by decide +kernel
theorem dX10_promise_76 : decode cX10_promise 76 = .ok (.iload 4, 2) := by decide +kernel
theorem dX10_promise_78 : decode cX10_promise 78 = .ok (.iconst 5, 1) := by decide +kernel
theorem dX10_promise_79 : decode cX10_promise 79 = .ok (.invokevirtual 250, 3) := by decide +kernel
theorem dX10_promise_82 : decode cX10_promise 82 = .ok (.iload_n 2, 1) := by decide +kernel
theorem dX10_promise_83 : decode cX10_promise 83 = .ok (.iadd, 1) := by decide +kernel
theorem dX10_promise_84 : decode cX10_promise 84 = .ok (.imul, 1) := by decide +kernel
theorem dX10_promise_85 : decode cX10_promise 85 = .ok (.iload 6, 2) := by decide +kernel
theorem dX10_promise_87 : decode cX10_promise 87 = .ok (.iadd, 1) := by decide +kernel
theorem dX10_promise_88 : decode cX10_promise 88 = .ok (.iconst 1, 1) := by decide +kernel
theorem dX10_promise_89 : decode cX10_promise 89 = .ok (.isub, 1) := by decide +kernel
theorem dX10_promise_90 : decode cX10_promise 90 = .ok (.iload 6, 2) := by decide +kernel
theorem dX10_promise_92 : decode cX10_promise 92 = .ok (.idiv, 1) := by decide +kernel
theorem dX10_promise_93 : decode cX10_promise 93 = .ok (.ireturn, 1) := by decide +kernel
theorem dX10_taken_0 : decode cX10_taken 0 = .ok (.aload_n 0, 1) := by decide +kernel
theorem dX10_taken_1 : decode cX10_taken 1 = .ok (.iload_n 1, 1) := by decide +kernel
theorem dX10_taken_2 : decode cX10_taken 2 = .ok (.invokevirtual 80, 3) := by decide +kernel
theorem dX10_taken_5 : decode cX10_taken 5 = .ok (.astore_n 2, 1) := by decide +kernel
theorem dX10_taken_6 : decode cX10_taken 6 = .ok (.aload_n 2, 1) := by decide +kernel
theorem dX10_taken_7 : decode cX10_taken 7 = .ok (.ifnonnull 7, 3) := by decide +kernel
theorem dX10_taken_10 : decode cX10_taken 10 = .ok (.iconst (-1), 1) := by decide +kernel
theorem dX10_taken_11 : decode cX10_taken 11 = .ok (.goto 7, 3) := by decide +kernel
theorem dX10_taken_14 : decode cX10_taken 14 = .ok (.aload_n 2, 1) := by decide +kernel
theorem dX10_taken_15 : decode cX10_taken 15 = .ok (.getfield 193, 3) := by decide +kernel
theorem dX10_taken_18 : decode cX10_taken 18 = .ok (.ireturn, 1) := by decide +kernel
theorem dX10_lags_0 : decode cX10_lags 0 = .ok (.aload_n 0, 1) := by decide +kernel
theorem dX10_lags_1 : decode cX10_lags 1 = .ok (.iload_n 1, 1) := by decide +kernel
theorem dX10_lags_2 : decode cX10_lags 2 = .ok (.invokevirtual 80, 3) := by decide +kernel
theorem dX10_lags_5 : decode cX10_lags 5 = .ok (.astore_n 2, 1) := by decide +kernel
theorem dX10_lags_6 : decode cX10_lags 6 = .ok (.aload_n 2, 1) := by decide +kernel
theorem dX10_lags_7 : decode cX10_lags 7 = .ok (.ifnonnull 6, 3) := by decide +kernel
theorem dX10_lags_10 : decode cX10_lags 10 = .ok (.ldc 234, 2) := by decide +kernel
theorem dX10_lags_12 : decode cX10_lags 12 = .ok (.ireturn, 1) := by decide +kernel
theorem dX10_lags_13 : decode cX10_lags 13 = .ok (.aload_n 0, 1) := by decide +kernel
theorem dX10_lags_14 : decode cX10_lags 14 = .ok (.aload_n 2, 1) := by decide +kernel
theorem dX10_lags_15 : decode cX10_lags 15 = .ok (.invokevirtual 253, 3) := by decide +kernel
theorem dX10_lags_18 : decode cX10_lags 18 = .ok (.ifCond .ne 6, 3) := by decide +kernel
theorem dX10_lags_21 : decode cX10_lags 21 = .ok (.ldc 238, 2) := by decide +kernel
theorem dX10_lags_23 : decode cX10_lags 23 = .ok (.ireturn, 1) := by decide +kernel
theorem dX10_lags_24 : decode cX10_lags 24 = .ok (.iconst 0, 1) := by decide +kernel
theorem dX10_lags_25 : decode cX10_lags 25 = .ok (.istore_n 3, 1) := by decide +kernel
theorem dX10_lags_26 : decode cX10_lags 26 = .ok (.iconst 0, 1) := by decide +kernel
theorem dX10_lags_27 : decode cX10_lags 27 = .ok (.istore 4, 2) := by decide +kernel
theorem dX10_lags_29 : decode cX10_lags 29 = .ok (.iconst 0, 1) := by decide +kernel
theorem dX10_lags_30 : decode cX10_lags 30 = .ok (.istore 5, 2) := by decide +kernel
theorem dX10_lags_32 : decode cX10_lags 32 = .ok (.iload 5, 2) := by decide +kernel
theorem dX10_lags_34 : decode cX10_lags 34 = .ok (.bipush 8, 2) := by decide +kernel
theorem dX10_lags_36 : decode cX10_lags 36 = .ok (.if_icmp .ge 57, 3) := by decide +kernel
theorem dX10_lags_39 : decode cX10_lags 39 = .ok (.iload_n 3, 1) := by decide +kernel
theorem dX10_lags_40 : decode cX10_lags 40 = .ok (.aload_n 0, 1) := by decide +kernel
theorem dX10_lags_41 : decode cX10_lags 41 = .ok (.aload_n 0, 1) := by decide +kernel
theorem dX10_lags_42 : decode cX10_lags 42 = .ok (.getfield 11, 3) := by decide +kernel
theorem dX10_lags_45 : decode cX10_lags 45 = .ok (.iload 5, 2) := by decide +kernel
theorem dX10_lags_47 : decode cX10_lags 47 = .ok (.aaload, 1) := by decide +kernel
theorem dX10_lags_48 : decode cX10_lags 48 = .ok (.invokevirtual 253, 3) := by decide +kernel
theorem dX10_lags_51 : decode cX10_lags 51 = .ok (.ifCond .eq 18, 3) := by decide +kernel
theorem dX10_lags_54 : decode cX10_lags 54 = .ok (.aload_n 0, 1) := by decide +kernel
theorem dX10_lags_55 : decode cX10_lags 55 = .ok (.getfield 11, 3) := by decide +kernel
theorem dX10_lags_58 : decode cX10_lags 58 = .ok (.iload 5, 2) := by decide +kernel
theorem dX10_lags_60 : decode cX10_lags 60 = .ok (.aaload, 1) := by decide +kernel
theorem dX10_lags_61 : decode cX10_lags 61 = .ok (.getfield 247, 3) := by decide +kernel
theorem dX10_lags_64 : decode cX10_lags 64 = .ok (.iconst 1, 1) := by decide +kernel
theorem dX10_lags_65 : decode cX10_lags 65 = .ok (.iaload, 1) := by decide +kernel
theorem dX10_lags_66 : decode cX10_lags 66 = .ok (.goto 4, 3) := by decide +kernel
theorem dX10_lags_69 : decode cX10_lags 69 = .ok (.iconst 0, 1) := by decide +kernel
theorem dX10_lags_70 : decode cX10_lags 70 = .ok (.iadd, 1) := by decide +kernel
theorem dX10_lags_71 : decode cX10_lags 71 = .ok (.istore_n 3, 1) := by decide +kernel
theorem dX10_lags_72 : decode cX10_lags 72 = .ok (.iload 4, 2) := by decide +kernel
theorem dX10_lags_74 : decode cX10_lags 74 = .ok (.aload_n 0, 1) := by decide +kernel
theorem dX10_lags_75 : decode cX10_lags 75 = .ok (.getfield 11, 3) := by decide +kernel
theorem dX10_lags_78 : decode cX10_lags 78 = .ok (.iload 5, 2) := by decide +kernel
theorem dX10_lags_80 : decode cX10_lags 80 = .ok (.aaload, 1) := by decide +kernel
theorem dX10_lags_81 : decode cX10_lags 81 = .ok (.getfield 193, 3) := by decide +kernel
theorem dX10_lags_84 : decode cX10_lags 84 = .ok (.iadd, 1) := by decide +kernel
theorem dX10_lags_85 : decode cX10_lags 85 = .ok (.istore 4, 2) := by decide +kernel
theorem dX10_lags_87 : decode cX10_lags 87 = .ok (.iinc 5 1, 3) := by decide +kernel
theorem dX10_lags_90 : decode cX10_lags 90 = .ok (.goto (-58), 3) := by decide +kernel
theorem dX10_lags_93 : decode cX10_lags 93 = .ok (.aload_n 2, 1) := by decide +kernel
theorem dX10_lags_94 : decode cX10_lags 94 = .ok (.getfield 247, 3) := by decide +kernel
theorem dX10_lags_97 : decode cX10_lags 97 = .ok (.iconst 1, 1) := by decide +kernel
theorem dX10_lags_98 : decode cX10_lags 98 = .ok (.iaload, 1) := by decide +kernel
theorem dX10_lags_99 : decode cX10_lags 99 = .ok (.iload 4, 2) := by decide +kernel
theorem dX10_lags_101 : decode cX10_lags 101 = .ok (.imul, 1) := by decide +kernel
theorem dX10_lags_102 : decode cX10_lags 102 = .ok (.iload_n 3, 1) := by decide +kernel
theorem dX10_lags_103 : decode cX10_lags 103 = .ok (.aload_n 2, 1) := by decide +kernel
theorem dX10_lags_104 : decode cX10_lags 104 = .ok (.getfield 193, 3) := by decide +kernel
theorem dX10_lags_107 : decode cX10_lags 107 = .ok (.imul, 1) := by decide +kernel
theorem dX10_lags_108 : decode cX10_lags 108 = .ok (.isub, 1) := by decide +kernel
theorem dX10_lags_109 : decode cX10_lags 109 = .ok (.istore 5, 2) := by decide +kernel
theorem dX10_lags_111 : decode cX10_lags 111 = .ok (.iload_n 3, 1) := by decide +kernel
theorem dX10_lags_112 : decode cX10_lags 112 = .ok (.ifCond .le 12, 3) := by decide +kernel
theorem dX10_lags_115 : decode cX10_lags 115 = .ok (.iload 5, 2) := by decide +kernel
theorem dX10_lags_117 : decode cX10_lags 117 = .ok (.iload_n 3, 1) := by decide +kernel
theorem dX10_lags_118 : decode cX10_lags 118 = .ok (.invokestatic 257, 3) := by decide +kernel
theorem dX10_lags_121 : decode cX10_lags 121 = .ok (.goto 4, 3) := by decide +kernel
theorem dX10_lags_124 : decode cX10_lags 124 = .ok (.iconst 0, 1) := by decide +kernel
theorem dX10_lags_125 : decode cX10_lags 125 = .ok (.ireturn, 1) := by decide +kernel
theorem dX10_heaps_0 : decode cX10_heaps 0 = .ok (.iload 5, 2) := by decide +kernel
theorem dX10_heaps_2 : decode cX10_heaps 2 = .ok (.iconst 1, 1) := by decide +kernel
theorem dX10_heaps_3 : decode cX10_heaps 3 = .ok (.if_icmp .eq 24, 3) := by decide +kernel
theorem dX10_heaps_6 : decode cX10_heaps 6 = .ok (.iload 5, 2) := by decide +kernel
theorem dX10_heaps_8 : decode cX10_heaps 8 = .ok (.iconst 2, 1) := by decide +kernel
theorem dX10_heaps_9 : decode cX10_heaps 9 = .ok (.if_icmp .eq 18, 3) := by decide +kernel
theorem dX10_heaps_12 : decode cX10_heaps 12 = .ok (.iload 5, 2) := by decide +kernel
theorem dX10_heaps_14 : decode cX10_heaps 14 = .ok (.iconst 4, 1) := by decide +kernel
theorem dX10_heaps_15 : decode cX10_heaps 15 = .ok (.if_icmp .eq 12, 3) := by decide +kernel
theorem dX10_heaps_18 : decode cX10_heaps 18 = .ok (.iload 5, 2) := by decide +kernel
theorem dX10_heaps_20 : decode cX10_heaps 20 = .ok (.bipush 8, 2) := by decide +kernel
theorem dX10_heaps_22 : decode cX10_heaps 22 = .ok (.if_icmp .eq 5, 3) := by decide +kernel
theorem dX10_heaps_25 : decode cX10_heaps 25 = .ok (.iconst (-1), 1) := by decide +kernel
theorem dX10_heaps_26 : decode cX10_heaps 26 = .ok (.ireturn, 1) := by decide +kernel
theorem dX10_heaps_27 : decode cX10_heaps 27 = .ok (.aload_n 0, 1) := by decide +kernel
theorem dX10_heaps_28 : decode cX10_heaps 28 = .ok (.iload_n 1, 1) := by decide +kernel
theorem dX10_heaps_29 : decode cX10_heaps 29 = .ok (.iload_n 2, 1) := by decide +kernel
theorem dX10_heaps_30 : decode cX10_heaps 30 = .ok (.iload_n 3, 1) := by decide +kernel
theorem dX10_heaps_31 : decode cX10_heaps 31 = .ok (.iload 4, 2) := by decide +kernel
theorem dX10_heaps_33 : decode cX10_heaps 33 = .ok (.invokevirtual 262, 3) := by decide +kernel
theorem dX10_heaps_36 : decode cX10_heaps 36 = .ok (.istore 6, 2) := by decide +kernel
theorem dX10_heaps_38 : decode cX10_heaps 38 = .ok (.iload 6, 2) := by decide +kernel
theorem dX10_heaps_40 : decode cX10_heaps 40 = .ok (.ifCond .ge 8, 3) := by decide +kernel
theorem dX10_heaps_43 : decode cX10_heaps 43 = .ok (.iload 6, 2) := by decide +kernel
theorem dX10_heaps_45 : decode cX10_heaps 45 = .ok (.goto 12, 3) := by decide +kernel
theorem dX10_heaps_48 : decode cX10_heaps 48 = .ok (.aload_n 0, 1) := by decide +kernel
theorem dX10_heaps_49 : decode cX10_heaps 49 = .ok (.getfield 67, 3) := by decide +kernel
theorem dX10_heaps_52 : decode cX10_heaps 52 = .ok (.iload 5, 2) := by decide +kernel
theorem dX10_heaps_54 : decode cX10_heaps 54 = .ok (.invokevirtual 265, 3) := by decide +kernel
theorem dX10_heaps_57 : decode cX10_heaps 57 = .ok (.ireturn, 1) := by decide +kernel
theorem dX10_cut_0 : decode cX10_cut 0 = .ok (.iload 5, 2) := by decide +kernel
theorem dX10_cut_2 : decode cX10_cut 2 = .ok (.iconst 1, 1) := by decide +kernel
theorem dX10_cut_3 : decode cX10_cut 3 = .ok (.if_icmp .lt 10, 3) := by decide +kernel
theorem dX10_cut_6 : decode cX10_cut 6 = .ok (.iload 5, 2) := by decide +kernel
theorem dX10_cut_8 : decode cX10_cut 8 = .ok (.bipush 8, 2) := by decide +kernel
theorem dX10_cut_10 : decode cX10_cut 10 = .ok (.if_icmp .le 5, 3) := by decide +kernel
theorem dX10_cut_13 : decode cX10_cut 13 = .ok (.iconst (-1), 1) := by decide +kernel
theorem dX10_cut_14 : decode cX10_cut 14 = .ok (.ireturn, 1) := by decide +kernel
theorem dX10_cut_15 : decode cX10_cut 15 = .ok (.aload_n 0, 1) := by decide +kernel
theorem dX10_cut_16 : decode cX10_cut 16 = .ok (.iload_n 1, 1) := by decide +kernel
theorem dX10_cut_17 : decode cX10_cut 17 = .ok (.iload_n 2, 1) := by decide +kernel
theorem dX10_cut_18 : decode cX10_cut 18 = .ok (.iload_n 3, 1) := by decide +kernel
theorem dX10_cut_19 : decode cX10_cut 19 = .ok (.iload 4, 2) := by decide +kernel
theorem dX10_cut_21 : decode cX10_cut 21 = .ok (.invokevirtual 262, 3) := by decide +kernel
theorem dX10_cut_24 : decode cX10_cut 24 = .ok (.istore 6, 2) := by decide +kernel
theorem dX10_cut_26 : decode cX10_cut 26 = .ok (.iload 6, 2) := by decide +kernel
theorem dX10_cut_28 : decode cX10_cut 28 = .ok (.ifCond .ge 8, 3) := by decide +kernel
theorem dX10_cut_31 : decode cX10_cut 31 = .ok (.iload 6, 2) := by decide +kernel
theorem dX10_cut_33 : decode cX10_cut 33 = .ok (.goto 12, 3) := by decide +kernel
theorem dX10_cut_36 : decode cX10_cut 36 = .ok (.aload_n 0, 1) := by decide +kernel
theorem dX10_cut_37 : decode cX10_cut 37 = .ok (.getfield 67, 3) := by decide +kernel
theorem dX10_cut_40 : decode cX10_cut 40 = .ok (.iload 5, 2) := by decide +kernel
theorem dX10_cut_42 : decode cX10_cut 42 = .ok (.invokevirtual 268, 3) := by decide +kernel
theorem dX10_cut_45 : decode cX10_cut 45 = .ok (.ireturn, 1) := by decide +kernel
theorem dX10_found_0 : decode cX10_found 0 = .ok (.iload 4, 2) := by decide +kernel
theorem dX10_found_2 : decode cX10_found 2 = .ok (.iconst 2, 1) := by decide +kernel
theorem dX10_found_3 : decode cX10_found 3 = .ok (.if_icmp .lt 10, 3) := by decide +kernel
theorem dX10_found_6 : decode cX10_found 6 = .ok (.iload 4, 2) := by decide +kernel
theorem dX10_found_8 : decode cX10_found 8 = .ok (.bipush 8, 2) := by decide +kernel
theorem dX10_found_10 : decode cX10_found 10 = .ok (.if_icmp .le 5, 3) := by decide +kernel
theorem dX10_found_13 : decode cX10_found 13 = .ok (.iconst (-1), 1) := by decide +kernel
theorem dX10_found_14 : decode cX10_found 14 = .ok (.ireturn, 1) := by decide +kernel
theorem dX10_found_15 : decode cX10_found 15 = .ok (.aload_n 0, 1) := by decide +kernel
theorem dX10_found_16 : decode cX10_found 16 = .ok (.iload_n 1, 1) := by decide +kernel
theorem dX10_found_17 : decode cX10_found 17 = .ok (.iload_n 2, 1) := by decide +kernel
theorem dX10_found_18 : decode cX10_found 18 = .ok (.iload_n 3, 1) := by decide +kernel
theorem dX10_found_19 : decode cX10_found 19 = .ok (.iload 4, 2) := by decide +kernel
theorem dX10_found_21 : decode cX10_found 21 = .ok (.iconst 0, 1) := by decide +kernel
theorem dX10_found_22 : decode cX10_found 22 = .ok (.invokevirtual 271, 3) := by decide +kernel
theorem dX10_found_25 : decode cX10_found 25 = .ok (.istore 5, 2) := by decide +kernel
theorem dX10_found_27 : decode cX10_found 27 = .ok (.iload 5, 2) := by decide +kernel
theorem dX10_found_29 : decode cX10_found 29 = .ok (.ifCond .ge 8, 3) := by decide +kernel
theorem dX10_found_32 : decode cX10_found 32 = .ok (.iload 5, 2) := by decide +kernel
theorem dX10_found_34 : decode cX10_found 34 = .ok (.goto 10, 3) := by decide +kernel
theorem dX10_found_37 : decode cX10_found 37 = .ok (.aload_n 0, 1) := by decide +kernel
theorem dX10_found_38 : decode cX10_found 38 = .ok (.getfield 74, 3) := by decide +kernel
theorem dX10_found_41 : decode cX10_found 41 = .ok (.invokevirtual 275, 3) := by decide +kernel
theorem dX10_found_44 : decode cX10_found 44 = .ok (.ireturn, 1) := by decide +kernel
theorem dX10_order_0 : decode cX10_order 0 = .ok (.iload 4, 2) := by decide +kernel
theorem dX10_order_2 : decode cX10_order 2 = .ok (.iconst 1, 1) := by decide +kernel
theorem dX10_order_3 : decode cX10_order 3 = .ok (.if_icmp .lt 23, 3) := by decide +kernel
theorem dX10_order_6 : decode cX10_order 6 = .ok (.iload 4, 2) := by decide +kernel
theorem dX10_order_8 : decode cX10_order 8 = .ok (.bipush 6, 2) := by decide +kernel
theorem dX10_order_10 : decode cX10_order 10 = .ok (.if_icmp .gt 16, 3) := by decide +kernel
theorem dX10_order_13 : decode cX10_order 13 = .ok (.iload 5, 2) := by decide +kernel
theorem dX10_order_15 : decode cX10_order 15 = .ok (.iconst (-1), 1) := by decide +kernel
theorem dX10_order_16 : decode cX10_order 16 = .ok (.if_icmp .lt 10, 3) := by decide +kernel
theorem dX10_order_19 : decode cX10_order 19 = .ok (.iload 5, 2) := by decide +kernel
theorem dX10_order_21 : decode cX10_order 21 = .ok (.iload 4, 2) := by decide +kernel
theorem dX10_order_23 : decode cX10_order 23 = .ok (.if_icmp .lt 5, 3) := by decide +kernel
theorem dX10_order_26 : decode cX10_order 26 = .ok (.iconst (-1), 1) := by decide +kernel
theorem dX10_order_27 : decode cX10_order 27 = .ok (.ireturn, 1) := by decide +kernel
theorem dX10_order_28 : decode cX10_order 28 = .ok (.aload_n 0, 1) := by decide +kernel
theorem dX10_order_29 : decode cX10_order 29 = .ok (.iload_n 1, 1) := by decide +kernel
theorem dX10_order_30 : decode cX10_order 30 = .ok (.iload_n 2, 1) := by decide +kernel
theorem dX10_order_31 : decode cX10_order 31 = .ok (.iload_n 3, 1) := by decide +kernel
theorem dX10_order_32 : decode cX10_order 32 = .ok (.iload 4, 2) := by decide +kernel
theorem dX10_order_34 : decode cX10_order 34 = .ok (.iconst 1, 1) := by decide +kernel
theorem dX10_order_35 : decode cX10_order 35 = .ok (.invokevirtual 271, 3) := by decide +kernel
theorem dX10_order_38 : decode cX10_order 38 = .ok (.istore 6, 2) := by decide +kernel
theorem dX10_order_40 : decode cX10_order 40 = .ok (.iload 6, 2) := by decide +kernel
theorem dX10_order_42 : decode cX10_order 42 = .ok (.ifCond .ge 6, 3) := by decide +kernel
theorem dX10_order_45 : decode cX10_order 45 = .ok (.iload 6, 2) := by decide +kernel
theorem dX10_order_47 : decode cX10_order 47 = .ok (.ireturn, 1) := by decide +kernel
theorem dX10_order_48 : decode cX10_order 48 = .ok (.aload_n 0, 1) := by decide +kernel
theorem dX10_order_49 : decode cX10_order 49 = .ok (.getfield 74, 3) := by decide +kernel
theorem dX10_order_52 : decode cX10_order 52 = .ok (.invokevirtual 279, 3) := by decide +kernel
theorem dX10_order_55 : decode cX10_order 55 = .ok (.aload_n 0, 1) := by decide +kernel
theorem dX10_order_56 : decode cX10_order 56 = .ok (.getfield 74, 3) := by decide +kernel
theorem dX10_order_59 : decode cX10_order 59 = .ok (.aload_n 0, 1) := by decide +kernel
theorem dX10_order_60 : decode cX10_order 60 = .ok (.getfield 60, 3) := by decide +kernel
theorem dX10_order_63 : decode cX10_order 63 = .ok (.getfield 186, 3) := by decide +kernel
theorem dX10_order_66 : decode cX10_order 66 = .ok (.invokevirtual 282, 3) := by decide +kernel
theorem dX10_order_69 : decode cX10_order 69 = .ok (.istore 7, 2) := by decide +kernel
theorem dX10_order_71 : decode cX10_order 71 = .ok (.iload 5, 2) := by decide +kernel
theorem dX10_order_73 : decode cX10_order 73 = .ok (.iconst (-1), 1) := by decide +kernel
theorem dX10_order_74 : decode cX10_order 74 = .ok (.if_icmp .ne 8, 3) := by decide +kernel
theorem dX10_order_77 : decode cX10_order 77 = .ok (.iload 7, 2) := by decide +kernel
theorem dX10_order_79 : decode cX10_order 79 = .ok (.goto 19, 3) := by decide +kernel
theorem dX10_order_82 : decode cX10_order 82 = .ok (.aload_n 0, 1) := by decide +kernel
theorem dX10_order_83 : decode cX10_order 83 = .ok (.getfield 74, 3) := by decide +kernel
theorem dX10_order_86 : decode cX10_order 86 = .ok (.iload 5, 2) := by decide +kernel
theorem dX10_order_88 : decode cX10_order 88 = .ok (.aload_n 0, 1) := by decide +kernel
theorem dX10_order_89 : decode cX10_order 89 = .ok (.getfield 60, 3) := by decide +kernel
theorem dX10_order_92 : decode cX10_order 92 = .ok (.getfield 186, 3) := by decide +kernel
theorem dX10_order_95 : decode cX10_order 95 = .ok (.invokevirtual 285, 3) := by decide +kernel
theorem dX10_order_98 : decode cX10_order 98 = .ok (.ireturn, 1) := by decide +kernel
theorem dX10_sheet_0 : decode cX10_sheet 0 = .ok (.aload_n 0, 1) := by decide +kernel
theorem dX10_sheet_1 : decode cX10_sheet 1 = .ok (.iload_n 1, 1) := by decide +kernel
theorem dX10_sheet_2 : decode cX10_sheet 2 = .ok (.invokevirtual 288, 3) := by decide +kernel
theorem dX10_sheet_5 : decode cX10_sheet 5 = .ok (.astore 4, 2) := by decide +kernel
theorem dX10_sheet_7 : decode cX10_sheet 7 = .ok (.aload 4, 2) := by decide +kernel
theorem dX10_sheet_9 : decode cX10_sheet 9 = .ok (.ifnull 18, 3) := by decide +kernel
theorem dX10_sheet_12 : decode cX10_sheet 12 = .ok (.iload_n 2, 1) := by decide +kernel
theorem dX10_sheet_13 : decode cX10_sheet 13 = .ok (.ifCond .lt 14, 3) := by decide +kernel
theorem dX10_sheet_16 : decode cX10_sheet 16 = .ok (.iload_n 2, 1) := by decide +kernel
theorem dX10_sheet_17 : decode cX10_sheet 17 = .ok (.iconst 3, 1) := by decide +kernel
theorem dX10_sheet_18 : decode cX10_sheet 18 = .ok (.if_icmp .ge 9, 3) := by decide +kernel
theorem dX10_sheet_21 : decode cX10_sheet 21 = .ok (.iload_n 3, 1) := by decide +kernel
theorem dX10_sheet_22 : decode cX10_sheet 22 = .ok (.bipush 24, 2) := by decide +kernel
theorem dX10_sheet_24 : decode cX10_sheet 24 = .ok (.if_icmp .le 5, 3) := by decide +kernel
theorem dX10_sheet_27 : decode cX10_sheet 27 = .ok (.iconst (-1), 1) := by decide +kernel
theorem dX10_sheet_28 : decode cX10_sheet 28 = .ok (.ireturn, 1) := by decide +kernel
theorem dX10_sheet_29 : decode cX10_sheet 29 = .ok (.iload_n 3, 1) := by decide +kernel
theorem dX10_sheet_30 : decode cX10_sheet 30 = .ok (.ifCond .ge 6, 3) := by decide +kernel
theorem dX10_sheet_33 : decode cX10_sheet 33 = .ok (.bipush (-14), 2) := by decide +kernel
theorem dX10_sheet_35 : decode cX10_sheet 35 = .ok (.ireturn, 1) := by decide +kernel
theorem dX10_sheet_36 : decode cX10_sheet 36 = .ok (.aload 4, 2) := by decide +kernel
theorem dX10_sheet_38 : decode cX10_sheet 38 = .ok (.iload_n 2, 1) := by decide +kernel
theorem dX10_sheet_39 : decode cX10_sheet 39 = .ok (.iload_n 3, 1) := by decide +kernel
theorem dX10_sheet_40 : decode cX10_sheet 40 = .ok (.invokevirtual 292, 3) := by decide +kernel
theorem dX10_sheet_43 : decode cX10_sheet 43 = .ok (.iload_n 3, 1) := by decide +kernel
theorem dX10_sheet_44 : decode cX10_sheet 44 = .ok (.ireturn, 1) := by decide +kernel
theorem dX10_drop_0 : decode cX10_drop 0 = .ok (.aload_n 0, 1) := by decide +kernel
theorem dX10_drop_1 : decode cX10_drop 1 = .ok (.iload_n 1, 1) := by decide +kernel
theorem dX10_drop_2 : decode cX10_drop 2 = .ok (.invokevirtual 288, 3) := by decide +kernel
theorem dX10_drop_5 : decode cX10_drop 5 = .ok (.astore_n 2, 1) := by decide +kernel
theorem dX10_drop_6 : decode cX10_drop 6 = .ok (.aload_n 2, 1) := by decide +kernel
theorem dX10_drop_7 : decode cX10_drop 7 = .ok (.ifnonnull 5, 3) := by decide +kernel
theorem dX10_drop_10 : decode cX10_drop 10 = .ok (.iconst (-1), 1) := by decide +kernel
theorem dX10_drop_11 : decode cX10_drop 11 = .ok (.ireturn, 1) := by decide +kernel
theorem dX10_drop_12 : decode cX10_drop 12 = .ok (.aload_n 2, 1) := by decide +kernel
theorem dX10_drop_13 : decode cX10_drop 13 = .ok (.invokevirtual 296, 3) := by decide +kernel
theorem dX10_drop_16 : decode cX10_drop 16 = .ok (.ifCond .eq 8, 3) := by decide +kernel
theorem dX10_drop_19 : decode cX10_drop 19 = .ok (.bipush (-11), 2) := by decide +kernel
theorem dX10_drop_21 : decode cX10_drop 21 = .ok (.goto 7, 3) := by decide +kernel
theorem dX10_drop_24 : decode cX10_drop 24 = .ok (.aload_n 2, 1) := by decide +kernel
theorem dX10_drop_25 : decode cX10_drop 25 = .ok (.invokevirtual 299, 3) := by decide +kernel
theorem dX10_drop_28 : decode cX10_drop 28 = .ok (.ireturn, 1) := by decide +kernel
theorem dX10_item_0 : decode cX10_item 0 = .ok (.aload_n 0, 1) := by decide +kernel
theorem dX10_item_1 : decode cX10_item 1 = .ok (.iload_n 1, 1) := by decide +kernel
theorem dX10_item_2 : decode cX10_item 2 = .ok (.iload_n 2, 1) := by decide +kernel
theorem dX10_item_3 : decode cX10_item 3 = .ok (.iload_n 3, 1) := by decide +kernel
theorem dX10_item_4 : decode cX10_item 4 = .ok (.iconst 1, 1) := by decide +kernel
theorem dX10_item_5 : decode cX10_item 5 = .ok (.invokevirtual 105, 3) := by decide +kernel
theorem dX10_item_8 : decode cX10_item 8 = .ok (.istore 5, 2) := by decide +kernel
theorem dX10_item_10 : decode cX10_item 10 = .ok (.iload 5, 2) := by decide +kernel
theorem dX10_item_12 : decode cX10_item 12 = .ok (.ifCond .ge 6, 3) := by decide +kernel
theorem dX10_item_15 : decode cX10_item 15 = .ok (.iload 5, 2) := by decide +kernel
theorem dX10_item_17 : decode cX10_item 17 = .ok (.ireturn, 1) := by decide +kernel
theorem dX10_item_18 : decode cX10_item 18 = .ok (.aload_n 0, 1) := by decide +kernel
theorem dX10_item_19 : decode cX10_item 19 = .ok (.getfield 17, 3) := by decide +kernel
theorem dX10_item_22 : decode cX10_item 22 = .ok (.iload_n 1, 1) := by decide +kernel
theorem dX10_item_23 : decode cX10_item 23 = .ok (.aaload, 1) := by decide +kernel
theorem dX10_item_24 : decode cX10_item 24 = .ok (.iload_n 3, 1) := by decide +kernel
theorem dX10_item_25 : decode cX10_item 25 = .ok (.iload 4, 2) := by decide +kernel
theorem dX10_item_27 : decode cX10_item 27 = .ok (.invokevirtual 302, 3) := by decide +kernel
theorem dX10_item_30 : decode cX10_item 30 = .ok (.iconst 1, 1) := by decide +kernel
theorem dX10_item_31 : decode cX10_item 31 = .ok (.ireturn, 1) := by decide +kernel
theorem dX10_copy_0 : decode cX10_copy 0 = .ok (.aload_n 0, 1) := by decide +kernel
theorem dX10_copy_1 : decode cX10_copy 1 = .ok (.iload_n 1, 1) := by decide +kernel
theorem dX10_copy_2 : decode cX10_copy 2 = .ok (.invokevirtual 288, 3) := by decide +kernel
theorem dX10_copy_5 : decode cX10_copy 5 = .ok (.astore 6, 2) := by decide +kernel
theorem dX10_copy_7 : decode cX10_copy 7 = .ok (.aload_n 0, 1) := by decide +kernel
theorem dX10_copy_8 : decode cX10_copy 8 = .ok (.iload_n 3, 1) := by decide +kernel
theorem dX10_copy_9 : decode cX10_copy 9 = .ok (.invokevirtual 288, 3) := by decide +kernel
theorem dX10_copy_12 : decode cX10_copy 12 = .ok (.astore 7, 2) := by decide +kernel
theorem dX10_copy_14 : decode cX10_copy 14 = .ok (.aload 6, 2) := by decide +kernel
theorem dX10_copy_16 : decode cX10_copy 16 = .ok (.ifnull 8, 3) := by decide +kernel
theorem dX10_copy_19 : decode cX10_copy 19 = .ok (.aload 7, 2) := by decide +kernel
theorem dX10_copy_21 : decode cX10_copy 21 = .ok (.ifnonnull 5, 3) := by decide +kernel
theorem dX10_copy_24 : decode cX10_copy 24 = .ok (.iconst (-1), 1) := by decide +kernel
theorem dX10_copy_25 : decode cX10_copy 25 = .ok (.ireturn, 1) := by decide +kernel
theorem dX10_copy_26 : decode cX10_copy 26 = .ok (.aload 6, 2) := by decide +kernel
theorem dX10_copy_28 : decode cX10_copy 28 = .ok (.invokevirtual 296, 3) := by decide +kernel
theorem dX10_copy_31 : decode cX10_copy 31 = .ok (.ifCond .ne 11, 3) := by decide +kernel
theorem dX10_copy_34 : decode cX10_copy 34 = .ok (.aload 7, 2) := by decide +kernel
theorem dX10_copy_36 : decode cX10_copy 36 = .ok (.invokevirtual 296, 3) := by decide +kernel
theorem dX10_copy_39 : decode cX10_copy 39 = .ok (.ifCond .eq 6, 3) := by decide +kernel
theorem dX10_copy_42 : decode cX10_copy 42 = .ok (.bipush (-11), 2) := by decide +kernel
theorem dX10_copy_44 : decode cX10_copy 44 = .ok (.ireturn, 1) := by decide +kernel
theorem dX10_copy_45 : decode cX10_copy 45 = .ok (.aload 6, 2) := by decide +kernel
theorem dX10_copy_47 : decode cX10_copy 47 = .ok (.getfield 305, 3) := by decide +kernel
theorem dX10_copy_50 : decode cX10_copy 50 = .ok (.aload 7, 2) := by decide +kernel
theorem dX10_copy_52 : decode cX10_copy 52 = .ok (.getfield 305, 3) := by decide +kernel
theorem dX10_copy_55 : decode cX10_copy 55 = .ok (.if_icmp .eq 6, 3) := by decide +kernel
theorem dX10_copy_58 : decode cX10_copy 58 = .ok (.bipush (-12), 2) := by decide +kernel
theorem dX10_copy_60 : decode cX10_copy 60 = .ok (.ireturn, 1) := by decide +kernel
theorem dX10_copy_61 : decode cX10_copy 61 = .ok (.aload 6, 2) := by decide +kernel
theorem dX10_copy_63 : decode cX10_copy 63 = .ok (.iload_n 2, 1) := by decide +kernel
theorem dX10_copy_64 : decode cX10_copy 64 = .ok (.iload 5, 2) := by decide +kernel
theorem dX10_copy_66 : decode cX10_copy 66 = .ok (.invokevirtual 308, 3) := by decide +kernel
theorem dX10_copy_69 : decode cX10_copy 69 = .ok (.ifCond .eq 15, 3) := by decide +kernel
theorem dX10_copy_72 : decode cX10_copy 72 = .ok (.aload 7, 2) := by decide +kernel
theorem dX10_copy_74 : decode cX10_copy 74 = .ok (.iload 4, 2) := by decide +kernel
theorem dX10_copy_76 : decode cX10_copy 76 = .ok (.iload 5, 2) := by decide +kernel
theorem dX10_copy_78 : decode cX10_copy 78 = .ok (.invokevirtual 308, 3) := by decide +kernel
theorem dX10_copy_81 : decode cX10_copy 81 = .ok (.ifCond .ne 6, 3) := by decide +kernel
theorem dX10_copy_84 : decode cX10_copy 84 = .ok (.bipush (-13), 2) := by decide +kernel
theorem dX10_copy_86 : decode cX10_copy 86 = .ok (.ireturn, 1) := by decide +kernel
theorem dX10_copy_87 : decode cX10_copy 87 = .ok (.aload 6, 2) := by decide +kernel
theorem dX10_copy_89 : decode cX10_copy 89 = .ok (.getfield 311, 3) := by decide +kernel
theorem dX10_copy_92 : decode cX10_copy 92 = .ok (.iload_n 2, 1) := by decide +kernel
theorem dX10_copy_93 : decode cX10_copy 93 = .ok (.aload 7, 2) := by decide +kernel
theorem dX10_copy_95 : decode cX10_copy 95 = .ok (.getfield 311, 3) := by decide +kernel
theorem dX10_copy_98 : decode cX10_copy 98 = .ok (.iload 4, 2) := by decide +kernel
theorem dX10_copy_100 : decode cX10_copy 100 = .ok (.iload 5, 2) := by decide +kernel
theorem dX10_copy_102 : decode cX10_copy 102 = .ok (.invokestatic 314, 3) := by decide +kernel
theorem dX10_copy_105 : decode cX10_copy 105 = .ok (.iload 5, 2) := by decide +kernel
theorem dX10_copy_107 : decode cX10_copy 107 = .ok (.ireturn, 1) := by decide +kernel
theorem dX10_streamAt_0 : decode cX10_streamAt 0 = .ok (.iload_n 1, 1) := by decide +kernel
theorem dX10_streamAt_1 : decode cX10_streamAt 1 = .ok (.ifCond .lt 9, 3) := by decide +kernel
theorem dX10_streamAt_4 : decode cX10_streamAt 4 = .ok (.iload_n 1, 1) := by decide +kernel
theorem dX10_streamAt_5 : decode cX10_streamAt 5 = .ok (.bipush 8, 2) := by decide +kernel
theorem dX10_streamAt_7 : decode cX10_streamAt 7 = .ok (.if_icmp .lt 7, 3) := by decide +kernel
theorem dX10_streamAt_10 : decode cX10_streamAt 10 = .ok (.aconst_null, 1) := by decide +kernel
theorem dX10_streamAt_11 : decode cX10_streamAt 11 = .ok (.goto 9, 3) := by decide +kernel
theorem dX10_streamAt_14 : decode cX10_streamAt 14 = .ok (.aload_n 0, 1) := by decide +kernel
theorem dX10_streamAt_15 : decode cX10_streamAt 15 = .ok (.getfield 11, 3) := by decide +kernel
theorem dX10_streamAt_18 : decode cX10_streamAt 18 = .ok (.iload_n 1, 1) := by decide +kernel
theorem dX10_streamAt_19 : decode cX10_streamAt 19 = .ok (.aaload, 1) := by decide +kernel
theorem dX10_streamAt_20 : decode cX10_streamAt 20 = .ok (.areturn, 1) := by decide +kernel
theorem dX10_sheetAt_0 : decode cX10_sheetAt 0 = .ok (.iload_n 1, 1) := by decide +kernel
theorem dX10_sheetAt_1 : decode cX10_sheetAt 1 = .ok (.ifCond .lt 8, 3) := by decide +kernel
theorem dX10_sheetAt_4 : decode cX10_sheetAt 4 = .ok (.iload_n 1, 1) := by decide +kernel
theorem dX10_sheetAt_5 : decode cX10_sheetAt 5 = .ok (.iconst 4, 1) := by decide +kernel
theorem dX10_sheetAt_6 : decode cX10_sheetAt 6 = .ok (.if_icmp .lt 7, 3) := by decide +kernel
theorem dX10_sheetAt_9 : decode cX10_sheetAt 9 = .ok (.aconst_null, 1) := by decide +kernel
theorem dX10_sheetAt_10 : decode cX10_sheetAt 10 = .ok (.goto 9, 3) := by decide +kernel
theorem dX10_sheetAt_13 : decode cX10_sheetAt 13 = .ok (.aload_n 0, 1) := by decide +kernel
theorem dX10_sheetAt_14 : decode cX10_sheetAt 14 = .ok (.getfield 17, 3) := by decide +kernel
theorem dX10_sheetAt_17 : decode cX10_sheetAt 17 = .ok (.iload_n 1, 1) := by decide +kernel
theorem dX10_sheetAt_18 : decode cX10_sheetAt 18 = .ok (.aaload, 1) := by decide +kernel
theorem dX10_sheetAt_19 : decode cX10_sheetAt 19 = .ok (.areturn, 1) := by decide +kernel
theorem dX10_wordAt_0 : decode cX10_wordAt 0 = .ok (.iload_n 1, 1) := by decide +kernel
theorem dX10_wordAt_1 : decode cX10_wordAt 1 = .ok (.ifCond .lt 11, 3) := by decide +kernel
theorem dX10_wordAt_4 : decode cX10_wordAt 4 = .ok (.iload_n 1, 1) := by decide +kernel
theorem dX10_wordAt_5 : decode cX10_wordAt 5 = .ok (.aload_n 0, 1) := by decide +kernel
theorem dX10_wordAt_6 : decode cX10_wordAt 6 = .ok (.getfield 98, 3) := by decide +kernel
theorem dX10_wordAt_9 : decode cX10_wordAt 9 = .ok (.if_icmp .lt 7, 3) := by decide +kernel
theorem dX10_wordAt_12 : decode cX10_wordAt 12 = .ok (.aconst_null, 1) := by decide +kernel
theorem dX10_wordAt_13 : decode cX10_wordAt 13 = .ok (.goto 9, 3) := by decide +kernel
theorem dX10_wordAt_16 : decode cX10_wordAt 16 = .ok (.aload_n 0, 1) := by decide +kernel
theorem dX10_wordAt_17 : decode cX10_wordAt 17 = .ok (.getfield 23, 3) := by decide +kernel
theorem dX10_wordAt_20 : decode cX10_wordAt 20 = .ok (.iload_n 1, 1) := by decide +kernel
theorem dX10_wordAt_21 : decode cX10_wordAt 21 = .ok (.aaload, 1) := by decide +kernel
theorem dX10_wordAt_22 : decode cX10_wordAt 22 = .ok (.areturn, 1) := by decide +kernel
theorem dX10_wrongSpan_0 : decode cX10_wrongSpan 0 = .ok (.aload_n 0, 1) := by decide +kernel
theorem dX10_wrongSpan_1 : decode cX10_wrongSpan 1 = .ok (.iload_n 1, 1) := by decide +kernel
theorem dX10_wrongSpan_2 : decode cX10_wrongSpan 2 = .ok (.invokevirtual 288, 3) := by decide +kernel
theorem dX10_wrongSpan_5 : decode cX10_wrongSpan 5 = .ok (.astore 5, 2) := by decide +kernel
theorem dX10_wrongSpan_7 : decode cX10_wrongSpan 7 = .ok (.aload 5, 2) := by decide +kernel
theorem dX10_wrongSpan_9 : decode cX10_wrongSpan 9 = .ok (.ifnull 12, 3) := by decide +kernel
theorem dX10_wrongSpan_12 : decode cX10_wrongSpan 12 = .ok (.iload_n 2, 1) := by decide +kernel
theorem dX10_wrongSpan_13 : decode cX10_wrongSpan 13 = .ok (.ifCond .lt 8, 3) := by decide +kernel
theorem dX10_wrongSpan_16 : decode cX10_wrongSpan 16 = .ok (.iload_n 2, 1) := by decide +kernel
theorem dX10_wrongSpan_17 : decode cX10_wrongSpan 17 = .ok (.iconst 3, 1) := by decide +kernel
theorem dX10_wrongSpan_18 : decode cX10_wrongSpan 18 = .ok (.if_icmp .lt 5, 3) := by decide +kernel
theorem dX10_wrongSpan_21 : decode cX10_wrongSpan 21 = .ok (.iconst (-1), 1) := by decide +kernel
theorem dX10_wrongSpan_22 : decode cX10_wrongSpan 22 = .ok (.ireturn, 1) := by decide +kernel
theorem dX10_wrongSpan_23 : decode cX10_wrongSpan 23 = .ok (.aload 5, 2) := by decide +kernel
theorem dX10_wrongSpan_25 : decode cX10_wrongSpan 25 = .ok (.invokevirtual 296, 3) := by decide +kernel
theorem dX10_wrongSpan_28 : decode cX10_wrongSpan 28 = .ok (.ifCond .eq 6, 3) := by decide +kernel
theorem dX10_wrongSpan_31 : decode cX10_wrongSpan 31 = .ok (.bipush (-11), 2) := by decide +kernel
theorem dX10_wrongSpan_33 : decode cX10_wrongSpan 33 = .ok (.ireturn, 1) := by decide +kernel
theorem dX10_wrongSpan_34 : decode cX10_wrongSpan 34 = .ok (.aload 5, 2) := by decide +kernel
theorem dX10_wrongSpan_36 : decode cX10_wrongSpan 36 = .ok (.getfield 305, 3) := by decide +kernel
theorem dX10_wrongSpan_39 : decode cX10_wrongSpan 39 = .ok (.iload_n 2, 1) := by decide +kernel
theorem dX10_wrongSpan_40 : decode cX10_wrongSpan 40 = .ok (.if_icmp .eq 6, 3) := by decide +kernel
theorem dX10_wrongSpan_43 : decode cX10_wrongSpan 43 = .ok (.bipush (-12), 2) := by decide +kernel
theorem dX10_wrongSpan_45 : decode cX10_wrongSpan 45 = .ok (.ireturn, 1) := by decide +kernel
theorem dX10_wrongSpan_46 : decode cX10_wrongSpan 46 = .ok (.aload 5, 2) := by decide +kernel
theorem dX10_wrongSpan_48 : decode cX10_wrongSpan 48 = .ok (.iload_n 3, 1) := by decide +kernel
theorem dX10_wrongSpan_49 : decode cX10_wrongSpan 49 = .ok (.iload 4, 2) := by decide +kernel
theorem dX10_wrongSpan_51 : decode cX10_wrongSpan 51 = .ok (.invokevirtual 308, 3) := by decide +kernel
theorem dX10_wrongSpan_54 : decode cX10_wrongSpan 54 = .ok (.ifCond .eq 7, 3) := by decide +kernel
theorem dX10_wrongSpan_57 : decode cX10_wrongSpan 57 = .ok (.iconst 0, 1) := by decide +kernel
theorem dX10_wrongSpan_58 : decode cX10_wrongSpan 58 = .ok (.goto 5, 3) := by decide +kernel
theorem dX10_wrongSpan_61 : decode cX10_wrongSpan 61 = .ok (.bipush (-13), 2) := by decide +kernel
theorem dX10_wrongSpan_63 : decode cX10_wrongSpan 63 = .ok (.ireturn, 1) := by decide +kernel
theorem dX10_itemAt_0 : decode cX10_itemAt 0 = .ok (.aload_n 0, 1) := by decide +kernel
theorem dX10_itemAt_1 : decode cX10_itemAt 1 = .ok (.iload_n 1, 1) := by decide +kernel
theorem dX10_itemAt_2 : decode cX10_itemAt 2 = .ok (.invokevirtual 288, 3) := by decide +kernel
theorem dX10_itemAt_5 : decode cX10_itemAt 5 = .ok (.astore_n 3, 1) := by decide +kernel
theorem dX10_itemAt_6 : decode cX10_itemAt 6 = .ok (.aload_n 3, 1) := by decide +kernel
theorem dX10_itemAt_7 : decode cX10_itemAt 7 = .ok (.ifnonnull 7, 3) := by decide +kernel
theorem dX10_itemAt_10 : decode cX10_itemAt 10 = .ok (.iconst 0, 1) := by decide +kernel
theorem dX10_itemAt_11 : decode cX10_itemAt 11 = .ok (.goto 8, 3) := by decide +kernel
theorem dX10_itemAt_14 : decode cX10_itemAt 14 = .ok (.aload_n 3, 1) := by decide +kernel
theorem dX10_itemAt_15 : decode cX10_itemAt 15 = .ok (.iload_n 2, 1) := by decide +kernel
theorem dX10_itemAt_16 : decode cX10_itemAt 16 = .ok (.invokevirtual 320, 3) := by decide +kernel
theorem dX10_itemAt_19 : decode cX10_itemAt 19 = .ok (.ireturn, 1) := by decide +kernel
theorem dX10_canCome_0 : decode cX10_canCome 0 = .ok (.iload_n 0, 1) := by decide +kernel
theorem dX10_canCome_1 : decode cX10_canCome 1 = .ok (.ifCond .lt 24, 3) := by decide +kernel
theorem dX10_canCome_4 : decode cX10_canCome 4 = .ok (.iload_n 0, 1) := by decide +kernel
theorem dX10_canCome_5 : decode cX10_canCome 5 = .ok (.bipush 8, 2) := by decide +kernel
theorem dX10_canCome_7 : decode cX10_canCome 7 = .ok (.if_icmp .ge 18, 3) := by decide +kernel
theorem dX10_canCome_10 : decode cX10_canCome 10 = .ok (.iload_n 1, 1) := by decide +kernel
theorem dX10_canCome_11 : decode cX10_canCome 11 = .ok (.iconst 1, 1) := by decide +kernel
theorem dX10_canCome_12 : decode cX10_canCome 12 = .ok (.if_icmp .lt 13, 3) := by decide +kernel
theorem dX10_canCome_15 : decode cX10_canCome 15 = .ok (.iload_n 1, 1) := by decide +kernel
theorem dX10_canCome_16 : decode cX10_canCome 16 = .ok (.bipush 99, 2) := by decide +kernel
theorem dX10_canCome_18 : decode cX10_canCome 18 = .ok (.if_icmp .gt 7, 3) := by decide +kernel
theorem dX10_canCome_21 : decode cX10_canCome 21 = .ok (.iconst 1, 1) := by decide +kernel
theorem dX10_canCome_22 : decode cX10_canCome 22 = .ok (.goto 4, 3) := by decide +kernel
theorem dX10_canCome_25 : decode cX10_canCome 25 = .ok (.iconst 0, 1) := by decide +kernel
theorem dX10_canCome_26 : decode cX10_canCome 26 = .ok (.ireturn, 1) := by decide +kernel
theorem dX10_welcome_0 : decode cX10_welcome 0 = .ok (.new 21, 3) := by decide +kernel
theorem dX10_welcome_3 : decode cX10_welcome 3 = .ok (.dup, 1) := by decide +kernel
theorem dX10_welcome_4 : decode cX10_welcome 4 = .ok (.aload_n 0, 1) := by decide +kernel
theorem dX10_welcome_5 : decode cX10_welcome 5 = .ok (.getfield 98, 3) := by decide +kernel
theorem dX10_welcome_8 : decode cX10_welcome 8 = .ok (.aload_n 0, 1) := by decide +kernel
theorem dX10_welcome_9 : decode cX10_welcome 9 = .ok (.getfield 11, 3) := by decide +kernel
theorem dX10_welcome_12 : decode cX10_welcome 12 = .ok (.iload_n 1, 1) := by decide +kernel
theorem dX10_welcome_13 : decode cX10_welcome 13 = .ok (.aaload, 1) := by decide +kernel
theorem dX10_welcome_14 : decode cX10_welcome 14 = .ok (.iload_n 2, 1) := by decide +kernel
theorem dX10_welcome_15 : decode cX10_welcome 15 = .ok (.aload_n 0, 1) := by decide +kernel
theorem dX10_welcome_16 : decode cX10_welcome 16 = .ok (.getfield 60, 3) := by decide +kernel
theorem dX10_welcome_19 : decode cX10_welcome 19 = .ok (.getfield 186, 3) := by decide +kernel
theorem dX10_welcome_22 : decode cX10_welcome 22 = .ok (.aload_n 0, 1) := by decide +kernel
theorem dX10_welcome_23 : decode cX10_welcome 23 = .ok (.getfield 60, 3) := by decide +kernel
theorem dX10_welcome_26 : decode cX10_welcome 26 = .ok (.getfield 228, 3) := by decide +kernel
theorem dX10_welcome_29 : decode cX10_welcome 29 = .ok (.invokespecial 323, 3) := by decide +kernel
theorem dX10_welcome_32 : decode cX10_welcome 32 = .ok (.astore_n 3, 1) := by decide +kernel
theorem dX10_welcome_33 : decode cX10_welcome 33 = .ok (.aload_n 0, 1) := by decide +kernel
theorem dX10_welcome_34 : decode cX10_welcome 34 = .ok (.getfield 23, 3) := by decide +kernel
theorem dX10_welcome_37 : decode cX10_welcome 37 = .ok (.aload_n 0, 1) := by decide +kernel
theorem dX10_welcome_38 : decode cX10_welcome 38 = .ok (.getfield 98, 3) := by decide +kernel
theorem dX10_welcome_41 : decode cX10_welcome 41 = .ok (.aload_n 3, 1) := by decide +kernel
theorem dX10_welcome_42 : decode cX10_welcome 42 = .ok (.aastore, 1) := by decide +kernel
theorem dX10_welcome_43 : decode cX10_welcome 43 = .ok (.aload_n 0, 1) := by decide +kernel
theorem dX10_welcome_44 : decode cX10_welcome 44 = .ok (.dup, 1) := by decide +kernel
theorem dX10_welcome_45 : decode cX10_welcome 45 = .ok (.getfield 98, 3) := by decide +kernel
theorem dX10_welcome_48 : decode cX10_welcome 48 = .ok (.iconst 1, 1) := by decide +kernel
theorem dX10_welcome_49 : decode cX10_welcome 49 = .ok (.iadd, 1) := by decide +kernel
theorem dX10_welcome_50 : decode cX10_welcome 50 = .ok (.putfield 98, 3) := by decide +kernel
theorem dX10_welcome_53 : decode cX10_welcome 53 = .ok (.aload_n 0, 1) := by decide +kernel
theorem dX10_welcome_54 : decode cX10_welcome 54 = .ok (.getfield 11, 3) := by decide +kernel
theorem dX10_welcome_57 : decode cX10_welcome 57 = .ok (.iload_n 1, 1) := by decide +kernel
theorem dX10_welcome_58 : decode cX10_welcome 58 = .ok (.aaload, 1) := by decide +kernel
theorem dX10_welcome_59 : decode cX10_welcome 59 = .ok (.aload_n 3, 1) := by decide +kernel
theorem dX10_welcome_60 : decode cX10_welcome 60 = .ok (.invokevirtual 326, 3) := by decide +kernel
theorem dX10_welcome_63 : decode cX10_welcome 63 = .ok (.aload_n 0, 1) := by decide +kernel
theorem dX10_welcome_64 : decode cX10_welcome 64 = .ok (.getfield 60, 3) := by decide +kernel
theorem dX10_welcome_67 : decode cX10_welcome 67 = .ok (.aload_n 3, 1) := by decide +kernel
theorem dX10_welcome_68 : decode cX10_welcome 68 = .ok (.invokevirtual 330, 3) := by decide +kernel
theorem dX10_welcome_71 : decode cX10_welcome 71 = .ok (.aload_n 3, 1) := by decide +kernel
theorem dX10_welcome_72 : decode cX10_welcome 72 = .ok (.getfield 203, 3) := by decide +kernel
theorem dX10_welcome_75 : decode cX10_welcome 75 = .ok (.ireturn, 1) := by decide +kernel
theorem dX10_sumUpTo_0 : decode cX10_sumUpTo 0 = .ok (.iconst 0, 1) := by decide +kernel
theorem dX10_sumUpTo_1 : decode cX10_sumUpTo 1 = .ok (.istore_n 3, 1) := by decide +kernel
theorem dX10_sumUpTo_2 : decode cX10_sumUpTo 2 = .ok (.iconst 0, 1) := by decide +kernel
theorem dX10_sumUpTo_3 : decode cX10_sumUpTo 3 = .ok (.istore 4, 2) := by decide +kernel
theorem dX10_sumUpTo_5 : decode cX10_sumUpTo 5 = .ok (.iload 4, 2) := by decide +kernel
theorem dX10_sumUpTo_7 : decode cX10_sumUpTo 7 = .ok (.bipush 8, 2) := by decide +kernel
theorem dX10_sumUpTo_9 : decode cX10_sumUpTo 9 = .ok (.if_icmp .ge 40, 3) := by decide +kernel
theorem dX10_sumUpTo_12 : decode cX10_sumUpTo 12 = .ok (.aload_n 0, 1) := by decide +kernel
theorem dX10_sumUpTo_13 : decode cX10_sumUpTo 13 = .ok (.getfield 11, 3) := by decide +kernel
theorem dX10_sumUpTo_16 : decode cX10_sumUpTo 16 = .ok (.iload 4, 2) := by decide +kernel
theorem dX10_sumUpTo_18 : decode cX10_sumUpTo 18 = .ok (.aaload, 1) := by decide +kernel
theorem dX10_sumUpTo_19 : decode cX10_sumUpTo 19 = .ok (.getfield 247, 3) := by decide +kernel
theorem dX10_sumUpTo_22 : decode cX10_sumUpTo 22 = .ok (.iconst 0, 1) := by decide +kernel
theorem dX10_sumUpTo_23 : decode cX10_sumUpTo 23 = .ok (.iaload, 1) := by decide +kernel
theorem dX10_sumUpTo_24 : decode cX10_sumUpTo 24 = .ok (.iload_n 1, 1) := by decide +kernel
theorem dX10_sumUpTo_25 : decode cX10_sumUpTo 25 = .ok (.if_icmp .gt 18, 3) := by decide +kernel
theorem dX10_sumUpTo_28 : decode cX10_sumUpTo 28 = .ok (.iload_n 3, 1) := by decide +kernel
theorem dX10_sumUpTo_29 : decode cX10_sumUpTo 29 = .ok (.aload_n 0, 1) := by decide +kernel
theorem dX10_sumUpTo_30 : decode cX10_sumUpTo 30 = .ok (.getfield 11, 3) := by decide +kernel
theorem dX10_sumUpTo_33 : decode cX10_sumUpTo 33 = .ok (.iload 4, 2) := by decide +kernel
theorem dX10_sumUpTo_35 : decode cX10_sumUpTo 35 = .ok (.aaload, 1) := by decide +kernel
theorem dX10_sumUpTo_36 : decode cX10_sumUpTo 36 = .ok (.getfield 247, 3) := by decide +kernel
theorem dX10_sumUpTo_39 : decode cX10_sumUpTo 39 = .ok (.iload_n 2, 1) := by decide +kernel
theorem dX10_sumUpTo_40 : decode cX10_sumUpTo 40 = .ok (.iaload, 1) := by decide +kernel
theorem dX10_sumUpTo_41 : decode cX10_sumUpTo 41 = .ok (.iadd, 1) := by decide +kernel
theorem dX10_sumUpTo_42 : decode cX10_sumUpTo 42 = .ok (.istore_n 3, 1) := by decide +kernel
theorem dX10_sumUpTo_43 : decode cX10_sumUpTo 43 = .ok (.iinc 4 1, 3) := by decide +kernel
theorem dX10_sumUpTo_46 : decode cX10_sumUpTo 46 = .ok (.goto (-41), 3) := by decide +kernel
theorem dX10_sumUpTo_49 : decode cX10_sumUpTo 49 = .ok (.iload_n 3, 1) := by decide +kernel
theorem dX10_sumUpTo_50 : decode cX10_sumUpTo 50 = .ok (.ireturn, 1) := by decide +kernel
theorem dX10_takesPart_0 : decode cX10_takesPart 0 = .ok (.aload_n 1, 1) := by decide +kernel
theorem dX10_takesPart_1 : decode cX10_takesPart 1 = .ok (.getfield 193, 3) := by decide +kernel
theorem dX10_takesPart_4 : decode cX10_takesPart 4 = .ok (.ifCond .gt 23, 3) := by decide +kernel
theorem dX10_takesPart_7 : decode cX10_takesPart 7 = .ok (.aload_n 0, 1) := by decide +kernel
theorem dX10_takesPart_8 : decode cX10_takesPart 8 = .ok (.getfield 60, 3) := by decide +kernel
theorem dX10_takesPart_11 : decode cX10_takesPart 11 = .ok (.getfield 196, 3) := by decide +kernel
theorem dX10_takesPart_14 : decode cX10_takesPart 14 = .ok (.getfield 206, 3) := by decide +kernel
theorem dX10_takesPart_17 : decode cX10_takesPart 17 = .ok (.aload_n 1, 1) := by decide +kernel
theorem dX10_takesPart_18 : decode cX10_takesPart 18 = .ok (.getfield 333, 3) := by decide +kernel
theorem dX10_takesPart_21 : decode cX10_takesPart 21 = .ok (.invokevirtual 334, 3) := by decide +kernel
theorem dX10_takesPart_24 : decode cX10_takesPart 24 = .ok (.ifCond .le 7, 3) := by decide +kernel
theorem dX10_takesPart_27 : decode cX10_takesPart 27 = .ok (.iconst 1, 1) := by decide +kernel
theorem dX10_takesPart_28 : decode cX10_takesPart 28 = .ok (.goto 4, 3) := by decide +kernel
theorem dX10_takesPart_31 : decode cX10_takesPart 31 = .ok (.iconst 0, 1) := by decide +kernel
theorem dX10_takesPart_32 : decode cX10_takesPart 32 = .ok (.ireturn, 1) := by decide +kernel
theorem dX10_takeRanks_0 : decode cX10_takeRanks 0 = .ok (.iload 4, 2) := by decide +kernel
theorem dX10_takeRanks_2 : decode cX10_takeRanks 2 = .ok (.iconst 1, 1) := by decide +kernel
theorem dX10_takeRanks_3 : decode cX10_takeRanks 3 = .ok (.if_icmp .lt 10, 3) := by decide +kernel
theorem dX10_takeRanks_6 : decode cX10_takeRanks 6 = .ok (.iload 4, 2) := by decide +kernel
theorem dX10_takeRanks_8 : decode cX10_takeRanks 8 = .ok (.bipush 24, 2) := by decide +kernel
theorem dX10_takeRanks_10 : decode cX10_takeRanks 10 = .ok (.if_icmp .le 5, 3) := by decide +kernel
theorem dX10_takeRanks_13 : decode cX10_takeRanks 13 = .ok (.iconst (-1), 1) := by decide +kernel
theorem dX10_takeRanks_14 : decode cX10_takeRanks 14 = .ok (.ireturn, 1) := by decide +kernel
theorem dX10_takeRanks_15 : decode cX10_takeRanks 15 = .ok (.aload_n 0, 1) := by decide +kernel
theorem dX10_takeRanks_16 : decode cX10_takeRanks 16 = .ok (.iload_n 1, 1) := by decide +kernel
theorem dX10_takeRanks_17 : decode cX10_takeRanks 17 = .ok (.iload_n 2, 1) := by decide +kernel
theorem dX10_takeRanks_18 : decode cX10_takeRanks 18 = .ok (.iload_n 3, 1) := by decide +kernel
theorem dX10_takeRanks_19 : decode cX10_takeRanks 19 = .ok (.iload 4, 2) := by decide +kernel
theorem dX10_takeRanks_21 : decode cX10_takeRanks 21 = .ok (.invokevirtual 105, 3) := by decide +kernel
theorem dX10_takeRanks_24 : decode cX10_takeRanks 24 = .ok (.istore 5, 2) := by decide +kernel
theorem dX10_takeRanks_26 : decode cX10_takeRanks 26 = .ok (.iload 5, 2) := by decide +kernel
theorem dX10_takeRanks_28 : decode cX10_takeRanks 28 = .ok (.ifCond .ge 6, 3) := by decide +kernel
theorem dX10_takeRanks_31 : decode cX10_takeRanks 31 = .ok (.iload 5, 2) := by decide +kernel
theorem dX10_takeRanks_33 : decode cX10_takeRanks 33 = .ok (.ireturn, 1) := by decide +kernel
theorem dX10_takeRanks_34 : decode cX10_takeRanks 34 = .ok (.aload_n 0, 1) := by decide +kernel
theorem dX10_takeRanks_35 : decode cX10_takeRanks 35 = .ok (.getfield 67, 3) := by decide +kernel
theorem dX10_takeRanks_38 : decode cX10_takeRanks 38 = .ok (.invokevirtual 337, 3) := by decide +kernel
theorem dX10_takeRanks_41 : decode cX10_takeRanks 41 = .ok (.iconst 0, 1) := by decide +kernel
theorem dX10_takeRanks_42 : decode cX10_takeRanks 42 = .ok (.istore 6, 2) := by decide +kernel
theorem dX10_takeRanks_44 : decode cX10_takeRanks 44 = .ok (.iload 6, 2) := by decide +kernel
theorem dX10_takeRanks_46 : decode cX10_takeRanks 46 = .ok (.iload 4, 2) := by decide +kernel
theorem dX10_takeRanks_48 : decode cX10_takeRanks 48 = .ok (.if_icmp .ge 44, 3) := by decide +kernel
theorem dX10_takeRanks_51 : decode cX10_takeRanks 51 = .ok (.aload_n 0, 1) := by decide +kernel
theorem dX10_takeRanks_52 : decode cX10_takeRanks 52 = .ok (.iload_n 1, 1) := by decide +kernel
theorem dX10_takeRanks_53 : decode cX10_takeRanks 53 = .ok (.iload_n 3, 1) := by decide +kernel
theorem dX10_takeRanks_54 : decode cX10_takeRanks 54 = .ok (.iload 6, 2) := by decide +kernel
theorem dX10_takeRanks_56 : decode cX10_takeRanks 56 = .ok (.iadd, 1) := by decide +kernel
theorem dX10_takeRanks_57 : decode cX10_takeRanks 57 = .ok (.invokevirtual 109, 3) := by decide +kernel
theorem dX10_takeRanks_60 : decode cX10_takeRanks 60 = .ok (.istore 7, 2) := by decide +kernel
theorem dX10_takeRanks_62 : decode cX10_takeRanks 62 = .ok (.iload 7, 2) := by decide +kernel
theorem dX10_takeRanks_64 : decode cX10_takeRanks 64 = .ok (.ifCond .lt 10, 3) := by decide +kernel
theorem dX10_takeRanks_67 : decode cX10_takeRanks 67 = .ok (.iload 7, 2) := by decide +kernel
theorem dX10_takeRanks_69 : decode cX10_takeRanks 69 = .ok (.bipush 32, 2) := by decide +kernel
theorem dX10_takeRanks_71 : decode cX10_takeRanks 71 = .ok (.if_icmp .lt 6, 3) := by decide +kernel
theorem dX10_takeRanks_74 : decode cX10_takeRanks 74 = .ok (.bipush (-2), 2) := by decide +kernel
theorem dX10_takeRanks_76 : decode cX10_takeRanks 76 = .ok (.ireturn, 1) := by decide +kernel
theorem dX10_takeRanks_77 : decode cX10_takeRanks 77 = .ok (.aload_n 0, 1) := by decide +kernel
theorem dX10_takeRanks_78 : decode cX10_takeRanks 78 = .ok (.getfield 67, 3) := by decide +kernel
theorem dX10_takeRanks_81 : decode cX10_takeRanks 81 = .ok (.iload 7, 2) := by decide +kernel
theorem dX10_takeRanks_83 : decode cX10_takeRanks 83 = .ok (.invokevirtual 338, 3) := by decide +kernel
theorem dX10_takeRanks_86 : decode cX10_takeRanks 86 = .ok (.iinc 6 1, 3) := by decide +kernel
theorem dX10_takeRanks_89 : decode cX10_takeRanks 89 = .ok (.goto (-45), 3) := by decide +kernel
theorem dX10_takeRanks_92 : decode cX10_takeRanks 92 = .ok (.iconst 0, 1) := by decide +kernel
theorem dX10_takeRanks_93 : decode cX10_takeRanks 93 = .ok (.ireturn, 1) := by decide +kernel
theorem dX10_pickWords_0 : decode cX10_pickWords 0 = .ok (.aload_n 0, 1) := by decide +kernel
theorem dX10_pickWords_1 : decode cX10_pickWords 1 = .ok (.iload_n 1, 1) := by decide +kernel
theorem dX10_pickWords_2 : decode cX10_pickWords 2 = .ok (.iload_n 2, 1) := by decide +kernel
theorem dX10_pickWords_3 : decode cX10_pickWords 3 = .ok (.iload_n 3, 1) := by decide +kernel
theorem dX10_pickWords_4 : decode cX10_pickWords 4 = .ok (.iload 4, 2) := by decide +kernel
theorem dX10_pickWords_6 : decode cX10_pickWords 6 = .ok (.invokevirtual 105, 3) := by decide +kernel
theorem dX10_pickWords_9 : decode cX10_pickWords 9 = .ok (.istore 6, 2) := by decide +kernel
theorem dX10_pickWords_11 : decode cX10_pickWords 11 = .ok (.iload 6, 2) := by decide +kernel
theorem dX10_pickWords_13 : decode cX10_pickWords 13 = .ok (.ifCond .ge 6, 3) := by decide +kernel
theorem dX10_pickWords_16 : decode cX10_pickWords 16 = .ok (.iload 6, 2) := by decide +kernel
theorem dX10_pickWords_18 : decode cX10_pickWords 18 = .ok (.ireturn, 1) := by decide +kernel
theorem dX10_pickWords_19 : decode cX10_pickWords 19 = .ok (.aload_n 0, 1) := by decide +kernel
theorem dX10_pickWords_20 : decode cX10_pickWords 20 = .ok (.getfield 74, 3) := by decide +kernel
theorem dX10_pickWords_23 : decode cX10_pickWords 23 = .ok (.invokevirtual 341, 3) := by decide +kernel
theorem dX10_pickWords_26 : decode cX10_pickWords 26 = .ok (.iconst 0, 1) := by decide +kernel
theorem dX10_pickWords_27 : decode cX10_pickWords 27 = .ok (.istore 7, 2) := by decide +kernel
theorem dX10_pickWords_29 : decode cX10_pickWords 29 = .ok (.iload 7, 2) := by decide +kernel
theorem dX10_pickWords_31 : decode cX10_pickWords 31 = .ok (.iload 4, 2) := by decide +kernel
theorem dX10_pickWords_33 : decode cX10_pickWords 33 = .ok (.if_icmp .ge 66, 3) := by decide +kernel
theorem dX10_pickWords_36 : decode cX10_pickWords 36 = .ok (.aload_n 0, 1) := by decide +kernel
theorem dX10_pickWords_37 : decode cX10_pickWords 37 = .ok (.aload_n 0, 1) := by decide +kernel
theorem dX10_pickWords_38 : decode cX10_pickWords 38 = .ok (.iload_n 1, 1) := by decide +kernel
theorem dX10_pickWords_39 : decode cX10_pickWords 39 = .ok (.iload_n 3, 1) := by decide +kernel
theorem dX10_pickWords_40 : decode cX10_pickWords 40 = .ok (.iload 7, 2) := by decide +kernel
theorem dX10_pickWords_42 : decode cX10_pickWords 42 = .ok (.iadd, 1) := by decide +kernel
theorem dX10_pickWords_43 : decode cX10_pickWords 43 = .ok (.invokevirtual 109, 3) := by decide +kernel
theorem dX10_pickWords_46 : decode cX10_pickWords 46 = .ok (.invokevirtual 135, 3) := by decide +kernel
theorem dX10_pickWords_49 : decode cX10_pickWords 49 = .ok (.astore 8, 2) := by decide +kernel
theorem dX10_pickWords_51 : decode cX10_pickWords 51 = .ok (.aload 8, 2) := by decide +kernel
theorem dX10_pickWords_53 : decode cX10_pickWords 53 = .ok (.ifnull 28, 3) := by decide +kernel
theorem dX10_pickWords_56 : decode cX10_pickWords 56 = .ok (.aload_n 0, 1) := by decide +kernel
theorem dX10_pickWords_57 : decode cX10_pickWords 57 = .ok (.getfield 74, 3) := by decide +kernel
theorem dX10_pickWords_60 : decode cX10_pickWords 60 = .ok (.aload 8, 2) := by decide +kernel
theorem dX10_pickWords_62 : decode cX10_pickWords 62 = .ok (.invokevirtual 342, 3) := by decide +kernel
theorem dX10_pickWords_65 : decode cX10_pickWords 65 = .ok (.ifCond .ne 16, 3) := by decide +kernel
theorem dX10_pickWords_68 : decode cX10_pickWords 68 = .ok (.iload 5, 2) := by decide +kernel
theorem dX10_pickWords_70 : decode cX10_pickWords 70 = .ok (.ifCond .eq 14, 3) := by decide +kernel
theorem dX10_pickWords_73 : decode cX10_pickWords 73 = .ok (.aload 8, 2) := by decide +kernel
theorem dX10_pickWords_75 : decode cX10_pickWords 75 = .ok (.getfield 139, 3) := by decide +kernel
theorem dX10_pickWords_78 : decode cX10_pickWords 78 = .ok (.ifCond .eq 6, 3) := by decide +kernel
theorem dX10_pickWords_81 : decode cX10_pickWords 81 = .ok (.bipush (-2), 2) := by decide +kernel
theorem dX10_pickWords_83 : decode cX10_pickWords 83 = .ok (.ireturn, 1) := by decide +kernel
theorem dX10_pickWords_84 : decode cX10_pickWords 84 = .ok (.aload_n 0, 1) := by decide +kernel
theorem dX10_pickWords_85 : decode cX10_pickWords 85 = .ok (.getfield 74, 3) := by decide +kernel
theorem dX10_pickWords_88 : decode cX10_pickWords 88 = .ok (.aload 8, 2) := by decide +kernel
theorem dX10_pickWords_90 : decode cX10_pickWords 90 = .ok (.invokevirtual 346, 3) := by decide +kernel
theorem dX10_pickWords_93 : decode cX10_pickWords 93 = .ok (.iinc 7 1, 3) := by decide +kernel
theorem dX10_pickWords_96 : decode cX10_pickWords 96 = .ok (.goto (-67), 3) := by decide +kernel
theorem dX10_pickWords_99 : decode cX10_pickWords 99 = .ok (.iconst 0, 1) := by decide +kernel
theorem dX10_pickWords_100 : decode cX10_pickWords 100 = .ok (.ireturn, 1) := by decide +kernel
