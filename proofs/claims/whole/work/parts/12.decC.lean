theorem dX11_in_0 : decode cX11_in 0 = .ok (.lload_n 0, 1) := by decide +kernel
theorem dX11_in_1 : decode cX11_in 1 = .ok (.lload_n 2, 1) := by decide +kernel
theorem dX11_in_2 : decode cX11_in 2 = .ok (.lcmp, 1) := by decide +kernel
theorem dX11_in_3 : decode cX11_in 3 = .ok (.ifCond .lt 14, 3) := by decide +kernel
theorem dX11_in_6 : decode cX11_in 6 = .ok (.lload_n 0, 1) := by decide +kernel
theorem dX11_in_7 : decode cX11_in 7 = .ok (.lload 4, 2) := by decide +kernel
theorem dX11_in_9 : decode cX11_in 9 = .ok (.lcmp, 1) := by decide +kernel
theorem dX11_in_10 : decode cX11_in 10 = .ok (.ifCond .gt 7, 3) := by decide +kernel
theorem dX11_in_13 : decode cX11_in 13 = .ok (.iconst 1, 1) := by decide +kernel
theorem dX11_in_14 : decode cX11_in 14 = .ok (.goto 4, 3) := by decide +kernel
theorem dX11_in_17 : decode cX11_in 17 = .ok (.iconst 0, 1) := by decide +kernel
theorem dX11_in_18 : decode cX11_in 18 = .ok (.ireturn, 1) := by decide +kernel
theorem dX11_init_0 : decode cX11_init 0 = .ok (.aload_n 0, 1) := by decide +kernel
theorem dX11_init_1 : decode cX11_init 1 = .ok (.invokespecial 1, 3) := by decide +kernel
theorem dX11_init_4 : decode cX11_init 4 = .ok (.aload_n 0, 1) := by decide +kernel
theorem dX11_init_5 : decode cX11_init 5 = .ok (.bipush 56, 2) := by decide +kernel
theorem dX11_init_7 : decode cX11_init 7 = .ok (.newarray .int, 2) := by decide +kernel
theorem dX11_init_9 : decode cX11_init 9 = .ok (.putfield 7, 3) := by decide +kernel
theorem dX11_init_12 : decode cX11_init 12 = .ok (.aload_n 0, 1) := by decide +kernel
theorem dX11_init_13 : decode cX11_init 13 = .ok (.bipush 8, 2) := by decide +kernel
theorem dX11_init_15 : decode cX11_init 15 = .ok (.newarray .int, 2) := by decide +kernel
theorem dX11_init_17 : decode cX11_init 17 = .ok (.putfield 13, 3) := by decide +kernel
theorem dX11_init_20 : decode cX11_init 20 = .ok (.aload_n 0, 1) := by decide +kernel
theorem dX11_init_21 : decode cX11_init 21 = .ok (.bipush 8, 2) := by decide +kernel
theorem dX11_init_23 : decode cX11_init 23 = .ok (.newarray .int, 2) := by decide +kernel
theorem dX11_init_25 : decode cX11_init 25 = .ok (.putfield 16, 3) := by decide +kernel
theorem dX11_init_28 : decode cX11_init 28 = .ok (.aload_n 0, 1) := by decide +kernel
theorem dX11_init_29 : decode cX11_init 29 = .ok (.bipush 8, 2) := by decide +kernel
theorem dX11_init_31 : decode cX11_init 31 = .ok (.newarray .int, 2) := by decide +kernel
theorem dX11_init_33 : decode cX11_init 33 = .ok (.putfield 19, 3) := by decide +kernel
theorem dX11_init_36 : decode cX11_init 36 = .ok (.aload_n 0, 1) := by decide +kernel
theorem dX11_init_37 : decode cX11_init 37 = .ok (.bipush 8, 2) := by decide +kernel
theorem dX11_init_39 : decode cX11_init 39 = .ok (.newarray .int, 2) := by decide +kernel
theorem dX11_init_41 : decode cX11_init 41 = .ok (.putfield 22, 3) := by decide +kernel
theorem dX11_init_44 : decode cX11_init 44 = .ok (.aload_n 0, 1) := by decide +kernel
theorem dX11_init_45 : decode cX11_init 45 = .ok (.sipush 13000, 3) := by decide +kernel
theorem dX11_init_48 : decode cX11_init 48 = .ok (.newarray .int, 2) := by decide +kernel
theorem dX11_init_50 : decode cX11_init 50 = .ok (.putfield 25, 3) := by decide +kernel
theorem dX11_init_53 : decode cX11_init 53 = .ok (.aload_n 0, 1) := by decide +kernel
theorem dX11_init_54 : decode cX11_init 54 = .ok (.sipush 1000, 3) := by decide +kernel
theorem dX11_init_57 : decode cX11_init 57 = .ok (.newarray .int, 2) := by decide +kernel
theorem dX11_init_59 : decode cX11_init 59 = .ok (.putfield 28, 3) := by decide +kernel
theorem dX11_init_62 : decode cX11_init 62 = .ok (.aload_n 0, 1) := by decide +kernel
theorem dX11_init_63 : decode cX11_init 63 = .ok (.bipush 12, 2) := by decide +kernel
theorem dX11_init_65 : decode cX11_init 65 = .ok (.newarray .int, 2) := by decide +kernel
theorem dX11_init_67 : decode cX11_init 67 = .ok (.putfield 31, 3) := by decide +kernel
theorem dX11_init_70 : decode cX11_init 70 = .ok (.aload_n 0, 1) := by decide +kernel
theorem dX11_init_71 : decode cX11_init 71 = .ok (.iconst 4, 1) := by decide +kernel
theorem dX11_init_72 : decode cX11_init 72 = .ok (.newarray .int, 2) := by decide +kernel
theorem dX11_init_74 : decode cX11_init 74 = .ok (.putfield 34, 3) := by decide +kernel
theorem dX11_init_77 : decode cX11_init 77 = .ok (.aload_n 0, 1) := by decide +kernel
theorem dX11_init_78 : decode cX11_init 78 = .ok (.iconst 4, 1) := by decide +kernel
theorem dX11_init_79 : decode cX11_init 79 = .ok (.newarray .int, 2) := by decide +kernel
theorem dX11_init_81 : decode cX11_init 81 = .ok (.putfield 37, 3) := by decide +kernel
theorem dX11_init_84 : decode cX11_init 84 = .ok (.aload_n 0, 1) := by decide +kernel
theorem dX11_init_85 : decode cX11_init 85 = .ok (.bipush 96, 2) := by decide +kernel
theorem dX11_init_87 : decode cX11_init 87 = .ok (.newarray .int, 2) := by decide +kernel
theorem dX11_init_89 : decode cX11_init 89 = .ok (.putfield 40, 3) := by decide +kernel
theorem dX11_init_92 : decode cX11_init 92 = .ok (.aload_n 0, 1) := by decide +kernel
theorem dX11_init_93 : decode cX11_init 93 = .ok (.bipush 24, 2) := by decide +kernel
theorem dX11_init_95 : decode cX11_init 95 = .ok (.newarray .int, 2) := by decide +kernel
theorem dX11_init_97 : decode cX11_init 97 = .ok (.putfield 43, 3) := by decide +kernel
theorem dX11_init_100 : decode cX11_init 100 = .ok (.aload_n 0, 1) := by decide +kernel
theorem dX11_init_101 : decode cX11_init 101 = .ok (.bipush 40, 2) := by decide +kernel
theorem dX11_init_103 : decode cX11_init 103 = .ok (.newarray .int, 2) := by decide +kernel
theorem dX11_init_105 : decode cX11_init 105 = .ok (.putfield 46, 3) := by decide +kernel
theorem dX11_init_108 : decode cX11_init 108 = .ok (.aload_n 0, 1) := by decide +kernel
theorem dX11_init_109 : decode cX11_init 109 = .ok (.bipush 6, 2) := by decide +kernel
theorem dX11_init_111 : decode cX11_init 111 = .ok (.newarray .int, 2) := by decide +kernel
theorem dX11_init_113 : decode cX11_init 113 = .ok (.putfield 49, 3) := by decide +kernel
theorem dX11_init_116 : decode cX11_init 116 = .ok (.aload_n 0, 1) := by decide +kernel
theorem dX11_init_117 : decode cX11_init 117 = .ok (.sipush 297, 3) := by decide +kernel
theorem dX11_init_120 : decode cX11_init 120 = .ok (.newarray .int, 2) := by decide +kernel
theorem dX11_init_122 : decode cX11_init 122 = .ok (.putfield 52, 3) := by decide +kernel
theorem dX11_init_125 : decode cX11_init 125 = .ok (.aload_n 0, 1) := by decide +kernel
theorem dX11_init_126 : decode cX11_init 126 = .ok (.bipush 6, 2) := by decide +kernel
theorem dX11_init_128 : decode cX11_init 128 = .ok (.newarray .int, 2) := by decide +kernel
theorem dX11_init_130 : decode cX11_init 130 = .ok (.putfield 55, 3) := by decide +kernel
theorem dX11_init_133 : decode cX11_init 133 = .ok (.aload_n 0, 1) := by decide +kernel
theorem dX11_init_134 : decode cX11_init 134 = .ok (.bipush 6, 2) := by decide +kernel
theorem dX11_init_136 : decode cX11_init 136 = .ok (.newarray .int, 2) := by decide +kernel
theorem dX11_init_138 : decode cX11_init 138 = .ok (.putfield 58, 3) := by decide +kernel
theorem dX11_init_141 : decode cX11_init 141 = .ok (.iconst 0, 1) := by decide +kernel
theorem dX11_init_142 : decode cX11_init 142 = .ok (.istore_n 1, 1) := by decide +kernel
theorem dX11_init_143 : decode cX11_init 143 = .ok (.iload_n 1, 1) := by decide +kernel
theorem dX11_init_144 : decode cX11_init 144 = .ok (.bipush 8, 2) := by decide +kernel
theorem dX11_init_146 : decode cX11_init 146 = .ok (.if_icmp .ge 34, 3) := by decide +kernel
theorem dX11_init_149 : decode cX11_init 149 = .ok (.aload_n 0, 1) := by decide +kernel
theorem dX11_init_150 : decode cX11_init 150 = .ok (.getfield 7, 3) := by decide +kernel
theorem dX11_init_153 : decode cX11_init 153 = .ok (.bipush 7, 2) := by decide +kernel
theorem dX11_init_155 : decode cX11_init 155 = .ok (.iload_n 1, 1) := by decide +kernel
theorem dX11_init_156 : decode cX11_init 156 = .ok (.imul, 1) := by decide +kernel
theorem dX11_init_157 : decode cX11_init 157 = .ok (.iconst 1, 1) := by decide +kernel
theorem dX11_init_158 : decode cX11_init 158 = .ok (.iadd, 1) := by decide +kernel
theorem dX11_init_159 : decode cX11_init 159 = .ok (.iconst 1, 1) := by decide +kernel
theorem dX11_init_160 : decode cX11_init 160 = .ok (.iastore, 1) := by decide +kernel
theorem dX11_init_161 : decode cX11_init 161 = .ok (.aload_n 0, 1) := by decide +kernel
theorem dX11_init_162 : decode cX11_init 162 = .ok (.getfield 7, 3) := by decide +kernel
theorem dX11_init_165 : decode cX11_init 165 = .ok (.bipush 7, 2) := by decide +kernel
theorem dX11_init_167 : decode cX11_init 167 = .ok (.iload_n 1, 1) := by decide +kernel
theorem dX11_init_168 : decode cX11_init 168 = .ok (.imul, 1) := by decide +kernel
theorem dX11_init_169 : decode cX11_init 169 = .ok (.iconst 2, 1) := by decide +kernel
theorem dX11_init_170 : decode cX11_init 170 = .ok (.iadd, 1) := by decide +kernel
theorem dX11_init_171 : decode cX11_init 171 = .ok (.bipush 100, 2) := by decide +kernel
theorem dX11_init_173 : decode cX11_init 173 = .ok (.iastore, 1) := by decide +kernel
theorem dX11_init_174 : decode cX11_init 174 = .ok (.iinc 1 1, 3) := by decide +kernel
theorem dX11_init_177 : decode cX11_init 177 = .ok (.goto (-34), 3) := by decide +kernel
theorem dX11_init_180 : decode cX11_init 180 = .ok (.aload_n 0, 1) := by decide +kernel
theorem dX11_init_181 : decode cX11_init 181 = .ok (.getfield 31, 3) := by decide +kernel
theorem dX11_init_184 : decode cX11_init 184 = .ok (.iconst 2, 1) := by decide +kernel
theorem dX11_init_185 : decode cX11_init 185 = .ok (.iconst 1, 1) := by decide +kernel
theorem dX11_init_186 : decode cX11_init 186 = .ok (.iastore, 1) := by decide +kernel
theorem dX11_init_187 : decode cX11_init 187 = .ok (.aload_n 0, 1) := by decide +kernel
theorem dX11_init_188 : decode cX11_init 188 = .ok (.getfield 31, 3) := by decide +kernel
theorem dX11_init_191 : decode cX11_init 191 = .ok (.bipush 8, 2) := by decide +kernel
theorem dX11_init_193 : decode cX11_init 193 = .ok (.iconst 1, 1) := by decide +kernel
theorem dX11_init_194 : decode cX11_init 194 = .ok (.iastore, 1) := by decide +kernel
theorem dX11_init_195 : decode cX11_init 195 = .ok (.aload_n 0, 1) := by decide +kernel
theorem dX11_init_196 : decode cX11_init 196 = .ok (.bipush (-4), 2) := by decide +kernel
theorem dX11_init_198 : decode cX11_init 198 = .ok (.putfield 61, 3) := by decide +kernel
theorem dX11_init_201 : decode cX11_init 201 = .ok (.aload_n 0, 1) := by decide +kernel
theorem dX11_init_202 : decode cX11_init 202 = .ok (.bipush 24, 2) := by decide +kernel
theorem dX11_init_204 : decode cX11_init 204 = .ok (.putfield 65, 3) := by decide +kernel
theorem dX11_init_207 : decode cX11_init 207 = .ok (.iconst 0, 1) := by decide +kernel
theorem dX11_init_208 : decode cX11_init 208 = .ok (.istore_n 1, 1) := by decide +kernel
theorem dX11_init_209 : decode cX11_init 209 = .ok (.iload_n 1, 1) := by decide +kernel
theorem dX11_init_210 : decode cX11_init 210 = .ok (.iconst 4, 1) := by decide +kernel
theorem dX11_init_211 : decode cX11_init 211 = .ok (.if_icmp .ge 17, 3) := by decide +kernel
theorem dX11_init_214 : decode cX11_init 214 = .ok (.aload_n 0, 1) := by decide +kernel
theorem dX11_init_215 : decode cX11_init 215 = .ok (.getfield 34, 3) := by decide +kernel
theorem dX11_init_218 : decode cX11_init 218 = .ok (.iload_n 1, 1) := by decide +kernel
theorem dX11_init_219 : decode cX11_init 219 = .ok (.bipush (-4), 2) := by decide +kernel
theorem dX11_init_221 : decode cX11_init 221 = .ok (.iastore, 1) := by decide +kernel
theorem dX11_init_222 : decode cX11_init 222 = .ok (.iinc 1 1, 3) := by decide +kernel
theorem dX11_init_225 : decode cX11_init 225 = .ok (.goto (-16), 3) := by decide +kernel
theorem dX11_init_228 : decode cX11_init 228 = .ok (.return_, 1) := by decide +kernel
theorem dX11_isStream_0 : decode cX11_isStream 0 = .ok (.iload_n 0, 1) := by decide +kernel
theorem dX11_isStream_1 : decode cX11_isStream 1 = .ok (.i2l, 1) := by decide +kernel
theorem dX11_isStream_2 : decode cX11_isStream 2 = .ok (.lconst 0, 1) := by decide +kernel
theorem dX11_isStream_3 : decode cX11_isStream 3 = .ok (.ldc2_w 68, 3) := by decide +kernel
theorem dX11_isStream_6 : decode cX11_isStream 6 = .ok (.invokestatic 70, 3) := by decide +kernel
theorem dX11_isStream_9 : decode cX11_isStream 9 = .ok (.ireturn, 1) := by decide +kernel
theorem dX11_setOf_0 : decode cX11_setOf 0 = .ok (.aload_n 0, 1) := by decide +kernel
theorem dX11_setOf_1 : decode cX11_setOf 1 = .ok (.getfield 7, 3) := by decide +kernel
theorem dX11_setOf_4 : decode cX11_setOf 4 = .ok (.bipush 7, 2) := by decide +kernel
theorem dX11_setOf_6 : decode cX11_setOf 6 = .ok (.iload_n 1, 1) := by decide +kernel
theorem dX11_setOf_7 : decode cX11_setOf 7 = .ok (.imul, 1) := by decide +kernel
theorem dX11_setOf_8 : decode cX11_setOf 8 = .ok (.iload_n 2, 1) := by decide +kernel
theorem dX11_setOf_9 : decode cX11_setOf 9 = .ok (.iadd, 1) := by decide +kernel
theorem dX11_setOf_10 : decode cX11_setOf 10 = .ok (.iaload, 1) := by decide +kernel
theorem dX11_setOf_11 : decode cX11_setOf 11 = .ok (.ireturn, 1) := by decide +kernel
theorem dX11_isSet_0 : decode cX11_isSet 0 = .ok (.iload_n 0, 1) := by decide +kernel
theorem dX11_isSet_1 : decode cX11_isSet 1 = .ok (.tableswitch 113 0 6 #[43, 53, 63, 73, 83, 93, 103], 43) := by decide +kernel
theorem dX11_isSet_44 : decode cX11_isSet 44 = .ok (.iload_n 1, 1) := by decide +kernel
theorem dX11_isSet_45 : decode cX11_isSet 45 = .ok (.i2l, 1) := by decide +kernel
theorem dX11_isSet_46 : decode cX11_isSet 46 = .ok (.lconst 0, 1) := by decide +kernel
theorem dX11_isSet_47 : decode cX11_isSet 47 = .ok (.ldc2_w 74, 3) := by decide +kernel
theorem dX11_isSet_50 : decode cX11_isSet 50 = .ok (.invokestatic 70, 3) := by decide +kernel
theorem dX11_isSet_53 : decode cX11_isSet 53 = .ok (.ireturn, 1) := by decide +kernel
theorem dX11_isSet_54 : decode cX11_isSet 54 = .ok (.iload_n 1, 1) := by decide +kernel
theorem dX11_isSet_55 : decode cX11_isSet 55 = .ok (.i2l, 1) := by decide +kernel
theorem dX11_isSet_56 : decode cX11_isSet 56 = .ok (.lconst 1, 1) := by decide +kernel
theorem dX11_isSet_57 : decode cX11_isSet 57 = .ok (.ldc2_w 76, 3) := by decide +kernel
theorem dX11_isSet_60 : decode cX11_isSet 60 = .ok (.invokestatic 70, 3) := by decide +kernel
theorem dX11_isSet_63 : decode cX11_isSet 63 = .ok (.ireturn, 1) := by decide +kernel
theorem dX11_isSet_64 : decode cX11_isSet 64 = .ok (.iload_n 1, 1) := by decide +kernel
theorem dX11_isSet_65 : decode cX11_isSet 65 = .ok (.i2l, 1) := by decide +kernel
theorem dX11_isSet_66 : decode cX11_isSet 66 = .ok (.lconst 0, 1) := by decide +kernel
theorem dX11_isSet_67 : decode cX11_isSet 67 = .ok (.ldc2_w 78, 3) := by decide +kernel
theorem dX11_isSet_70 : decode cX11_isSet 70 = .ok (.invokestatic 70, 3) := by decide +kernel
theorem dX11_isSet_73 : decode cX11_isSet 73 = .ok (.ireturn, 1) := by decide +kernel
theorem dX11_isSet_74 : decode cX11_isSet 74 = .ok (.iload_n 1, 1) := by decide +kernel
theorem dX11_isSet_75 : decode cX11_isSet 75 = .ok (.i2l, 1) := by decide +kernel
theorem dX11_isSet_76 : decode cX11_isSet 76 = .ok (.lconst 0, 1) := by decide +kernel
theorem dX11_isSet_77 : decode cX11_isSet 77 = .ok (.ldc2_w 80, 3) := by decide +kernel
theorem dX11_isSet_80 : decode cX11_isSet 80 = .ok (.invokestatic 70, 3) := by decide +kernel
theorem dX11_isSet_83 : decode cX11_isSet 83 = .ok (.ireturn, 1) := by decide +kernel
theorem dX11_isSet_84 : decode cX11_isSet 84 = .ok (.iload_n 1, 1) := by decide +kernel
theorem dX11_isSet_85 : decode cX11_isSet 85 = .ok (.i2l, 1) := by decide +kernel
theorem dX11_isSet_86 : decode cX11_isSet 86 = .ok (.lconst 0, 1) := by decide +kernel
theorem dX11_isSet_87 : decode cX11_isSet 87 = .ok (.ldc2_w 82, 3) := by decide +kernel
theorem dX11_isSet_90 : decode cX11_isSet 90 = .ok (.invokestatic 70, 3) := by decide +kernel
theorem dX11_isSet_93 : decode cX11_isSet 93 = .ok (.ireturn, 1) := by decide +kernel
theorem dX11_isSet_94 : decode cX11_isSet 94 = .ok (.iload_n 1, 1) := by decide +kernel
theorem dX11_isSet_95 : decode cX11_isSet 95 = .ok (.i2l, 1) := by decide +kernel
theorem dX11_isSet_96 : decode cX11_isSet 96 = .ok (.lconst 0, 1) := by decide +kernel
theorem dX11_isSet_97 : decode cX11_isSet 97 = .ok (.ldc2_w 78, 3) := by decide +kernel
theorem dX11_isSet_100 : decode cX11_isSet 100 = .ok (.invokestatic 70, 3) := by decide +kernel
theorem dX11_isSet_103 : decode cX11_isSet 103 = .ok (.ireturn, 1) := by decide +kernel
theorem dX11_isSet_104 : decode cX11_isSet 104 = .ok (.iload_n 1, 1) := by decide +kernel
theorem dX11_isSet_105 : decode cX11_isSet 105 = .ok (.i2l, 1) := by decide +kernel
theorem dX11_isSet_106 : decode cX11_isSet 106 = .ok (.lconst 0, 1) := by decide +kernel
theorem dX11_isSet_107 : decode cX11_isSet 107 = .ok (.ldc2_w 76, 3) := by decide +kernel
theorem dX11_isSet_110 : decode cX11_isSet 110 = .ok (.invokestatic 70, 3) := by decide +kernel
theorem dX11_isSet_113 : decode cX11_isSet 113 = .ok (.ireturn, 1) := by decide +kernel
theorem dX11_isSet_114 : decode cX11_isSet 114 = .ok (.iconst 0, 1) := by decide +kernel
theorem dX11_isSet_115 : decode cX11_isSet 115 = .ok (.ireturn, 1) := by decide +kernel
theorem dX11_set_0 : decode cX11_set 0 = .ok (.iload_n 1, 1) := by decide +kernel
theorem dX11_set_1 : decode cX11_set 1 = .ok (.invokestatic 84, 3) := by decide +kernel
theorem dX11_set_4 : decode cX11_set 4 = .ok (.ifCond .eq 11, 3) := by decide +kernel
theorem dX11_set_7 : decode cX11_set 7 = .ok (.iload_n 2, 1) := by decide +kernel
theorem dX11_set_8 : decode cX11_set 8 = .ok (.iload_n 3, 1) := by decide +kernel
theorem dX11_set_9 : decode cX11_set 9 = .ok (.invokestatic 88, 3) := by decide +kernel
theorem dX11_set_12 : decode cX11_set 12 = .ok (.ifCond .ne 5, 3) := by decide +kernel
theorem dX11_set_15 : decode cX11_set 15 = .ok (.iconst (-1), 1) := by decide +kernel
theorem dX11_set_16 : decode cX11_set 16 = .ok (.ireturn, 1) := by decide +kernel
theorem dX11_set_17 : decode cX11_set 17 = .ok (.aload_n 0, 1) := by decide +kernel
theorem dX11_set_18 : decode cX11_set 18 = .ok (.iload_n 1, 1) := by decide +kernel
theorem dX11_set_19 : decode cX11_set 19 = .ok (.iload_n 2, 1) := by decide +kernel
theorem dX11_set_20 : decode cX11_set 20 = .ok (.invokevirtual 92, 3) := by decide +kernel
theorem dX11_set_23 : decode cX11_set 23 = .ok (.istore 4, 2) := by decide +kernel
theorem dX11_set_25 : decode cX11_set 25 = .ok (.aload_n 0, 1) := by decide +kernel
theorem dX11_set_26 : decode cX11_set 26 = .ok (.getfield 7, 3) := by decide +kernel
theorem dX11_set_29 : decode cX11_set 29 = .ok (.bipush 7, 2) := by decide +kernel
theorem dX11_set_31 : decode cX11_set 31 = .ok (.iload_n 1, 1) := by decide +kernel
theorem dX11_set_32 : decode cX11_set 32 = .ok (.imul, 1) := by decide +kernel
theorem dX11_set_33 : decode cX11_set 33 = .ok (.iload_n 2, 1) := by decide +kernel
theorem dX11_set_34 : decode cX11_set 34 = .ok (.iadd, 1) := by decide +kernel
theorem dX11_set_35 : decode cX11_set 35 = .ok (.iload_n 3, 1) := by decide +kernel
theorem dX11_set_36 : decode cX11_set 36 = .ok (.iastore, 1) := by decide +kernel
theorem dX11_set_37 : decode cX11_set 37 = .ok (.iload 4, 2) := by decide +kernel
theorem dX11_set_39 : decode cX11_set 39 = .ok (.ireturn, 1) := by decide +kernel
theorem dX11_isWord_0 : decode cX11_isWord 0 = .ok (.iload_n 1, 1) := by decide +kernel
theorem dX11_isWord_1 : decode cX11_isWord 1 = .ok (.i2l, 1) := by decide +kernel
theorem dX11_isWord_2 : decode cX11_isWord 2 = .ok (.lconst 0, 1) := by decide +kernel
theorem dX11_isWord_3 : decode cX11_isWord 3 = .ok (.aload_n 0, 1) := by decide +kernel
theorem dX11_isWord_4 : decode cX11_isWord 4 = .ok (.getfield 96, 3) := by decide +kernel
theorem dX11_isWord_7 : decode cX11_isWord 7 = .ok (.iconst 1, 1) := by decide +kernel
theorem dX11_isWord_8 : decode cX11_isWord 8 = .ok (.isub, 1) := by decide +kernel
theorem dX11_isWord_9 : decode cX11_isWord 9 = .ok (.i2l, 1) := by decide +kernel
theorem dX11_isWord_10 : decode cX11_isWord 10 = .ok (.invokestatic 70, 3) := by decide +kernel
theorem dX11_isWord_13 : decode cX11_isWord 13 = .ok (.ireturn, 1) := by decide +kernel
theorem dX11_of_0 : decode cX11_of 0 = .ok (.aload_n 0, 1) := by decide +kernel
theorem dX11_of_1 : decode cX11_of 1 = .ok (.getfield 25, 3) := by decide +kernel
theorem dX11_of_4 : decode cX11_of 4 = .ok (.bipush 13, 2) := by decide +kernel
theorem dX11_of_6 : decode cX11_of 6 = .ok (.iload_n 1, 1) := by decide +kernel
theorem dX11_of_7 : decode cX11_of 7 = .ok (.imul, 1) := by decide +kernel
theorem dX11_of_8 : decode cX11_of 8 = .ok (.iload_n 2, 1) := by decide +kernel
theorem dX11_of_9 : decode cX11_of 9 = .ok (.iadd, 1) := by decide +kernel
theorem dX11_of_10 : decode cX11_of 10 = .ok (.iaload, 1) := by decide +kernel
theorem dX11_of_11 : decode cX11_of 11 = .ok (.ireturn, 1) := by decide +kernel
theorem dX11_puts_0 : decode cX11_puts 0 = .ok (.aload_n 0, 1) := by decide +kernel
theorem dX11_puts_1 : decode cX11_puts 1 = .ok (.getfield 25, 3) := by decide +kernel
theorem dX11_puts_4 : decode cX11_puts 4 = .ok (.bipush 13, 2) := by decide +kernel
theorem dX11_puts_6 : decode cX11_puts 6 = .ok (.iload_n 1, 1) := by decide +kernel
theorem dX11_puts_7 : decode cX11_puts 7 = .ok (.imul, 1) := by decide +kernel
theorem dX11_puts_8 : decode cX11_puts 8 = .ok (.iload_n 2, 1) := by decide +kernel
theorem dX11_puts_9 : decode cX11_puts 9 = .ok (.iadd, 1) := by decide +kernel
theorem dX11_puts_10 : decode cX11_puts 10 = .ok (.iload_n 3, 1) := by decide +kernel
theorem dX11_puts_11 : decode cX11_puts 11 = .ok (.iastore, 1) := by decide +kernel
theorem dX11_puts_12 : decode cX11_puts 12 = .ok (.return_, 1) := by decide +kernel
theorem dX11_rankOf_0 : decode cX11_rankOf 0 = .ok (.lconst 0, 1) := by decide +kernel
theorem dX11_rankOf_1 : decode cX11_rankOf 1 = .ok (.lstore_n 3, 1) := by decide +kernel
theorem dX11_rankOf_2 : decode cX11_rankOf 2 = .ok (.iconst 0, 1) := by decide +kernel
theorem dX11_rankOf_3 : decode cX11_rankOf 3 = .ok (.istore 5, 2) := by decide +kernel
theorem dX11_rankOf_5 : decode cX11_rankOf 5 = .ok (.iload 5, 2) := by decide +kernel
theorem dX11_rankOf_7 : decode cX11_rankOf 7 = .ok (.bipush 6, 2) := by decide +kernel
theorem dX11_rankOf_9 : decode cX11_rankOf 9 = .ok (.if_icmp .ge 34, 3) := by decide +kernel
theorem dX11_rankOf_12 : decode cX11_rankOf 12 = .ok (.lload_n 3, 1) := by decide +kernel
theorem dX11_rankOf_13 : decode cX11_rankOf 13 = .ok (.aload_n 0, 1) := by decide +kernel
theorem dX11_rankOf_14 : decode cX11_rankOf 14 = .ok (.getfield 31, 3) := by decide +kernel
theorem dX11_rankOf_17 : decode cX11_rankOf 17 = .ok (.bipush 6, 2) := by decide +kernel
theorem dX11_rankOf_19 : decode cX11_rankOf 19 = .ok (.iload_n 2, 1) := by decide +kernel
theorem dX11_rankOf_20 : decode cX11_rankOf 20 = .ok (.imul, 1) := by decide +kernel
theorem dX11_rankOf_21 : decode cX11_rankOf 21 = .ok (.iload 5, 2) := by decide +kernel
theorem dX11_rankOf_23 : decode cX11_rankOf 23 = .ok (.iadd, 1) := by decide +kernel
theorem dX11_rankOf_24 : decode cX11_rankOf 24 = .ok (.iaload, 1) := by decide +kernel
theorem dX11_rankOf_25 : decode cX11_rankOf 25 = .ok (.i2l, 1) := by decide +kernel
theorem dX11_rankOf_26 : decode cX11_rankOf 26 = .ok (.aload_n 0, 1) := by decide +kernel
theorem dX11_rankOf_27 : decode cX11_rankOf 27 = .ok (.iload_n 1, 1) := by decide +kernel
theorem dX11_rankOf_28 : decode cX11_rankOf 28 = .ok (.iload 5, 2) := by decide +kernel
theorem dX11_rankOf_30 : decode cX11_rankOf 30 = .ok (.invokevirtual 99, 3) := by decide +kernel
theorem dX11_rankOf_33 : decode cX11_rankOf 33 = .ok (.i2l, 1) := by decide +kernel
theorem dX11_rankOf_34 : decode cX11_rankOf 34 = .ok (.lmul, 1) := by decide +kernel
theorem dX11_rankOf_35 : decode cX11_rankOf 35 = .ok (.ladd, 1) := by decide +kernel
theorem dX11_rankOf_36 : decode cX11_rankOf 36 = .ok (.lstore_n 3, 1) := by decide +kernel
theorem dX11_rankOf_37 : decode cX11_rankOf 37 = .ok (.iinc 5 1, 3) := by decide +kernel
theorem dX11_rankOf_40 : decode cX11_rankOf 40 = .ok (.goto (-35), 3) := by decide +kernel
theorem dX11_rankOf_43 : decode cX11_rankOf 43 = .ok (.lload_n 3, 1) := by decide +kernel
theorem dX11_rankOf_44 : decode cX11_rankOf 44 = .ok (.lreturn, 1) := by decide +kernel
theorem dX11_waiting_0 : decode cX11_waiting 0 = .ok (.iconst 0, 1) := by decide +kernel
theorem dX11_waiting_1 : decode cX11_waiting 1 = .ok (.istore_n 1, 1) := by decide +kernel
theorem dX11_waiting_2 : decode cX11_waiting 2 = .ok (.iconst 0, 1) := by decide +kernel
theorem dX11_waiting_3 : decode cX11_waiting 3 = .ok (.istore_n 2, 1) := by decide +kernel
theorem dX11_waiting_4 : decode cX11_waiting 4 = .ok (.iload_n 2, 1) := by decide +kernel
theorem dX11_waiting_5 : decode cX11_waiting 5 = .ok (.aload_n 0, 1) := by decide +kernel
theorem dX11_waiting_6 : decode cX11_waiting 6 = .ok (.getfield 96, 3) := by decide +kernel
theorem dX11_waiting_9 : decode cX11_waiting 9 = .ok (.if_icmp .ge 27, 3) := by decide +kernel
theorem dX11_waiting_12 : decode cX11_waiting 12 = .ok (.iload_n 1, 1) := by decide +kernel
theorem dX11_waiting_13 : decode cX11_waiting 13 = .ok (.aload_n 0, 1) := by decide +kernel
theorem dX11_waiting_14 : decode cX11_waiting 14 = .ok (.iload_n 2, 1) := by decide +kernel
theorem dX11_waiting_15 : decode cX11_waiting 15 = .ok (.bipush 9, 2) := by decide +kernel
theorem dX11_waiting_17 : decode cX11_waiting 17 = .ok (.invokevirtual 99, 3) := by decide +kernel
theorem dX11_waiting_20 : decode cX11_waiting 20 = .ok (.ifCond .ne 7, 3) := by decide +kernel
theorem dX11_waiting_23 : decode cX11_waiting 23 = .ok (.iconst 1, 1) := by decide +kernel
theorem dX11_waiting_24 : decode cX11_waiting 24 = .ok (.goto 4, 3) := by decide +kernel
theorem dX11_waiting_27 : decode cX11_waiting 27 = .ok (.iconst 0, 1) := by decide +kernel
theorem dX11_waiting_28 : decode cX11_waiting 28 = .ok (.iadd, 1) := by decide +kernel
theorem dX11_waiting_29 : decode cX11_waiting 29 = .ok (.istore_n 1, 1) := by decide +kernel
theorem dX11_waiting_30 : decode cX11_waiting 30 = .ok (.iinc 2 1, 3) := by decide +kernel
theorem dX11_waiting_33 : decode cX11_waiting 33 = .ok (.goto (-29), 3) := by decide +kernel
theorem dX11_waiting_36 : decode cX11_waiting 36 = .ok (.iload_n 1, 1) := by decide +kernel
theorem dX11_waiting_37 : decode cX11_waiting 37 = .ok (.ireturn, 1) := by decide +kernel
theorem dX11_isLength_0 : decode cX11_isLength 0 = .ok (.iload_n 0, 1) := by decide +kernel
theorem dX11_isLength_1 : decode cX11_isLength 1 = .ok (.i2l, 1) := by decide +kernel
theorem dX11_isLength_2 : decode cX11_isLength 2 = .ok (.lconst 1, 1) := by decide +kernel
theorem dX11_isLength_3 : decode cX11_isLength 3 = .ok (.ldc2_w 80, 3) := by decide +kernel
theorem dX11_isLength_6 : decode cX11_isLength 6 = .ok (.invokestatic 70, 3) := by decide +kernel
theorem dX11_isLength_9 : decode cX11_isLength 9 = .ok (.ireturn, 1) := by decide +kernel
theorem dX11_come_0 : decode cX11_come 0 = .ok (.iload_n 1, 1) := by decide +kernel
theorem dX11_come_1 : decode cX11_come 1 = .ok (.invokestatic 84, 3) := by decide +kernel
theorem dX11_come_4 : decode cX11_come 4 = .ok (.ifCond .eq 10, 3) := by decide +kernel
theorem dX11_come_7 : decode cX11_come 7 = .ok (.iload_n 2, 1) := by decide +kernel
theorem dX11_come_8 : decode cX11_come 8 = .ok (.invokestatic 102, 3) := by decide +kernel
theorem dX11_come_11 : decode cX11_come 11 = .ok (.ifCond .ne 5, 3) := by decide +kernel
theorem dX11_come_14 : decode cX11_come 14 = .ok (.iconst (-1), 1) := by decide +kernel
theorem dX11_come_15 : decode cX11_come 15 = .ok (.ireturn, 1) := by decide +kernel
theorem dX11_come_16 : decode cX11_come 16 = .ok (.aload_n 0, 1) := by decide +kernel
theorem dX11_come_17 : decode cX11_come 17 = .ok (.getfield 96, 3) := by decide +kernel
theorem dX11_come_20 : decode cX11_come 20 = .ok (.sipush 1000, 3) := by decide +kernel
theorem dX11_come_23 : decode cX11_come 23 = .ok (.if_icmp .ne 8, 3) := by decide +kernel
theorem dX11_come_26 : decode cX11_come 26 = .ok (.bipush (-3), 2) := by decide +kernel
theorem dX11_come_28 : decode cX11_come 28 = .ok (.goto 9, 3) := by decide +kernel
theorem dX11_come_31 : decode cX11_come 31 = .ok (.aload_n 0, 1) := by decide +kernel
theorem dX11_come_32 : decode cX11_come 32 = .ok (.iload_n 1, 1) := by decide +kernel
theorem dX11_come_33 : decode cX11_come 33 = .ok (.iload_n 2, 1) := by decide +kernel
theorem dX11_come_34 : decode cX11_come 34 = .ok (.invokevirtual 105, 3) := by decide +kernel
theorem dX11_come_37 : decode cX11_come 37 = .ok (.ireturn, 1) := by decide +kernel
theorem dX11_comesNow_0 : decode cX11_comesNow 0 = .ok (.aload_n 0, 1) := by decide +kernel
theorem dX11_comesNow_1 : decode cX11_comesNow 1 = .ok (.getfield 96, 3) := by decide +kernel
theorem dX11_comesNow_4 : decode cX11_comesNow 4 = .ok (.istore_n 3, 1) := by decide +kernel
theorem dX11_comesNow_5 : decode cX11_comesNow 5 = .ok (.aload_n 0, 1) := by decide +kernel
theorem dX11_comesNow_6 : decode cX11_comesNow 6 = .ok (.dup, 1) := by decide +kernel
theorem dX11_comesNow_7 : decode cX11_comesNow 7 = .ok (.getfield 96, 3) := by decide +kernel
theorem dX11_comesNow_10 : decode cX11_comesNow 10 = .ok (.iconst 1, 1) := by decide +kernel
theorem dX11_comesNow_11 : decode cX11_comesNow 11 = .ok (.iadd, 1) := by decide +kernel
theorem dX11_comesNow_12 : decode cX11_comesNow 12 = .ok (.putfield 96, 3) := by decide +kernel
theorem dX11_comesNow_15 : decode cX11_comesNow 15 = .ok (.aload_n 0, 1) := by decide +kernel
theorem dX11_comesNow_16 : decode cX11_comesNow 16 = .ok (.getfield 13, 3) := by decide +kernel
theorem dX11_comesNow_19 : decode cX11_comesNow 19 = .ok (.iload_n 1, 1) := by decide +kernel
theorem dX11_comesNow_20 : decode cX11_comesNow 20 = .ok (.aload_n 0, 1) := by decide +kernel
theorem dX11_comesNow_21 : decode cX11_comesNow 21 = .ok (.getfield 13, 3) := by decide +kernel
theorem dX11_comesNow_24 : decode cX11_comesNow 24 = .ok (.iload_n 1, 1) := by decide +kernel
theorem dX11_comesNow_25 : decode cX11_comesNow 25 = .ok (.iaload, 1) := by decide +kernel
theorem dX11_comesNow_26 : decode cX11_comesNow 26 = .ok (.aload_n 0, 1) := by decide +kernel
theorem dX11_comesNow_27 : decode cX11_comesNow 27 = .ok (.getfield 108, 3) := by decide +kernel
theorem dX11_comesNow_30 : decode cX11_comesNow 30 = .ok (.if_icmp .le 12, 3) := by decide +kernel
theorem dX11_comesNow_33 : decode cX11_comesNow 33 = .ok (.aload_n 0, 1) := by decide +kernel
theorem dX11_comesNow_34 : decode cX11_comesNow 34 = .ok (.getfield 13, 3) := by decide +kernel
theorem dX11_comesNow_37 : decode cX11_comesNow 37 = .ok (.iload_n 1, 1) := by decide +kernel
theorem dX11_comesNow_38 : decode cX11_comesNow 38 = .ok (.iaload, 1) := by decide +kernel
theorem dX11_comesNow_39 : decode cX11_comesNow 39 = .ok (.goto 7, 3) := by decide +kernel
theorem dX11_comesNow_42 : decode cX11_comesNow 42 = .ok (.aload_n 0, 1) := by decide +kernel
theorem dX11_comesNow_43 : decode cX11_comesNow 43 = .ok (.getfield 108, 3) := by decide +kernel
theorem dX11_comesNow_46 : decode cX11_comesNow 46 = .ok (.bipush 16, 2) := by decide +kernel
theorem dX11_comesNow_48 : decode cX11_comesNow 48 = .ok (.iload_n 2, 1) := by decide +kernel
theorem dX11_comesNow_49 : decode cX11_comesNow 49 = .ok (.imul, 1) := by decide +kernel
theorem dX11_comesNow_50 : decode cX11_comesNow 50 = .ok (.aload_n 0, 1) := by decide +kernel
theorem dX11_comesNow_51 : decode cX11_comesNow 51 = .ok (.iload_n 1, 1) := by decide +kernel
theorem dX11_comesNow_52 : decode cX11_comesNow 52 = .ok (.iconst 1, 1) := by decide +kernel
theorem dX11_comesNow_53 : decode cX11_comesNow 53 = .ok (.invokevirtual 92, 3) := by decide +kernel
theorem dX11_comesNow_56 : decode cX11_comesNow 56 = .ok (.idiv, 1) := by decide +kernel
theorem dX11_comesNow_57 : decode cX11_comesNow 57 = .ok (.iadd, 1) := by decide +kernel
theorem dX11_comesNow_58 : decode cX11_comesNow 58 = .ok (.iastore, 1) := by decide +kernel
theorem dX11_comesNow_59 : decode cX11_comesNow 59 = .ok (.aload_n 0, 1) := by decide +kernel
theorem dX11_comesNow_60 : decode cX11_comesNow 60 = .ok (.getfield 19, 3) := by decide +kernel
theorem dX11_comesNow_63 : decode cX11_comesNow 63 = .ok (.iload_n 1, 1) := by decide +kernel
theorem dX11_comesNow_64 : decode cX11_comesNow 64 = .ok (.iaload, 1) := by decide +kernel
theorem dX11_comesNow_65 : decode cX11_comesNow 65 = .ok (.ifCond .ne 10, 3) := by decide +kernel
theorem dX11_comesNow_68 : decode cX11_comesNow 68 = .ok (.aload_n 0, 1) := by decide +kernel
theorem dX11_comesNow_69 : decode cX11_comesNow 69 = .ok (.getfield 111, 3) := by decide +kernel
theorem dX11_comesNow_72 : decode cX11_comesNow 72 = .ok (.goto 16, 3) := by decide +kernel
theorem dX11_comesNow_75 : decode cX11_comesNow 75 = .ok (.aload_n 0, 1) := by decide +kernel
theorem dX11_comesNow_76 : decode cX11_comesNow 76 = .ok (.getfield 16, 3) := by decide +kernel
theorem dX11_comesNow_79 : decode cX11_comesNow 79 = .ok (.iload_n 1, 1) := by decide +kernel
theorem dX11_comesNow_80 : decode cX11_comesNow 80 = .ok (.iaload, 1) := by decide +kernel
theorem dX11_comesNow_81 : decode cX11_comesNow 81 = .ok (.aload_n 0, 1) := by decide +kernel
theorem dX11_comesNow_82 : decode cX11_comesNow 82 = .ok (.iload_n 1, 1) := by decide +kernel
theorem dX11_comesNow_83 : decode cX11_comesNow 83 = .ok (.iconst 3, 1) := by decide +kernel
theorem dX11_comesNow_84 : decode cX11_comesNow 84 = .ok (.invokevirtual 92, 3) := by decide +kernel
theorem dX11_comesNow_87 : decode cX11_comesNow 87 = .ok (.iadd, 1) := by decide +kernel
theorem dX11_comesNow_88 : decode cX11_comesNow 88 = .ok (.istore 4, 2) := by decide +kernel
theorem dX11_comesNow_90 : decode cX11_comesNow 90 = .ok (.aload_n 0, 1) := by decide +kernel
theorem dX11_comesNow_91 : decode cX11_comesNow 91 = .ok (.getfield 16, 3) := by decide +kernel
theorem dX11_comesNow_94 : decode cX11_comesNow 94 = .ok (.iload_n 1, 1) := by decide +kernel
theorem dX11_comesNow_95 : decode cX11_comesNow 95 = .ok (.iload 4, 2) := by decide +kernel
theorem dX11_comesNow_97 : decode cX11_comesNow 97 = .ok (.aload_n 0, 1) := by decide +kernel
theorem dX11_comesNow_98 : decode cX11_comesNow 98 = .ok (.getfield 111, 3) := by decide +kernel
theorem dX11_comesNow_101 : decode cX11_comesNow 101 = .ok (.if_icmp .le 8, 3) := by decide +kernel
theorem dX11_comesNow_104 : decode cX11_comesNow 104 = .ok (.iload 4, 2) := by decide +kernel
theorem dX11_comesNow_106 : decode cX11_comesNow 106 = .ok (.goto 7, 3) := by decide +kernel
theorem dX11_comesNow_109 : decode cX11_comesNow 109 = .ok (.aload_n 0, 1) := by decide +kernel
theorem dX11_comesNow_110 : decode cX11_comesNow 110 = .ok (.getfield 111, 3) := by decide +kernel
theorem dX11_comesNow_113 : decode cX11_comesNow 113 = .ok (.iastore, 1) := by decide +kernel
theorem dX11_comesNow_114 : decode cX11_comesNow 114 = .ok (.aload_n 0, 1) := by decide +kernel
theorem dX11_comesNow_115 : decode cX11_comesNow 115 = .ok (.iload_n 3, 1) := by decide +kernel
theorem dX11_comesNow_116 : decode cX11_comesNow 116 = .ok (.iconst 0, 1) := by decide +kernel
theorem dX11_comesNow_117 : decode cX11_comesNow 117 = .ok (.aload_n 0, 1) := by decide +kernel
theorem dX11_comesNow_118 : decode cX11_comesNow 118 = .ok (.iload_n 1, 1) := by decide +kernel
theorem dX11_comesNow_119 : decode cX11_comesNow 119 = .ok (.iconst 0, 1) := by decide +kernel
theorem dX11_comesNow_120 : decode cX11_comesNow 120 = .ok (.invokevirtual 92, 3) := by decide +kernel
theorem dX11_comesNow_123 : decode cX11_comesNow 123 = .ok (.invokevirtual 114, 3) := by decide +kernel
theorem dX11_comesNow_126 : decode cX11_comesNow 126 = .ok (.aload_n 0, 1) := by decide +kernel
theorem dX11_comesNow_127 : decode cX11_comesNow 127 = .ok (.iload_n 3, 1) := by decide +kernel
theorem dX11_comesNow_128 : decode cX11_comesNow 128 = .ok (.iconst 1, 1) := by decide +kernel
theorem dX11_comesNow_129 : decode cX11_comesNow 129 = .ok (.iload_n 2, 1) := by decide +kernel
theorem dX11_comesNow_130 : decode cX11_comesNow 130 = .ok (.invokevirtual 114, 3) := by decide +kernel
theorem dX11_comesNow_133 : decode cX11_comesNow 133 = .ok (.aload_n 0, 1) := by decide +kernel
theorem dX11_comesNow_134 : decode cX11_comesNow 134 = .ok (.iload_n 3, 1) := by decide +kernel
theorem dX11_comesNow_135 : decode cX11_comesNow 135 = .ok (.iconst 2, 1) := by decide +kernel
theorem dX11_comesNow_136 : decode cX11_comesNow 136 = .ok (.aload_n 0, 1) := by decide +kernel
theorem dX11_comesNow_137 : decode cX11_comesNow 137 = .ok (.getfield 111, 3) := by decide +kernel
theorem dX11_comesNow_140 : decode cX11_comesNow 140 = .ok (.invokevirtual 114, 3) := by decide +kernel
theorem dX11_comesNow_143 : decode cX11_comesNow 143 = .ok (.aload_n 0, 1) := by decide +kernel
theorem dX11_comesNow_144 : decode cX11_comesNow 144 = .ok (.iload_n 3, 1) := by decide +kernel
theorem dX11_comesNow_145 : decode cX11_comesNow 145 = .ok (.iconst 3, 1) := by decide +kernel
theorem dX11_comesNow_146 : decode cX11_comesNow 146 = .ok (.aload_n 0, 1) := by decide +kernel
theorem dX11_comesNow_147 : decode cX11_comesNow 147 = .ok (.getfield 111, 3) := by decide +kernel
theorem dX11_comesNow_150 : decode cX11_comesNow 150 = .ok (.aload_n 0, 1) := by decide +kernel
theorem dX11_comesNow_151 : decode cX11_comesNow 151 = .ok (.iload_n 1, 1) := by decide +kernel
theorem dX11_comesNow_152 : decode cX11_comesNow 152 = .ok (.iconst 2, 1) := by decide +kernel
theorem dX11_comesNow_153 : decode cX11_comesNow 153 = .ok (.invokevirtual 92, 3) := by decide +kernel
theorem dX11_comesNow_156 : decode cX11_comesNow 156 = .ok (.iadd, 1) := by decide +kernel
theorem dX11_comesNow_157 : decode cX11_comesNow 157 = .ok (.invokevirtual 114, 3) := by decide +kernel
theorem dX11_comesNow_160 : decode cX11_comesNow 160 = .ok (.aload_n 0, 1) := by decide +kernel
theorem dX11_comesNow_161 : decode cX11_comesNow 161 = .ok (.iload_n 3, 1) := by decide +kernel
theorem dX11_comesNow_162 : decode cX11_comesNow 162 = .ok (.iconst 4, 1) := by decide +kernel
theorem dX11_comesNow_163 : decode cX11_comesNow 163 = .ok (.aload_n 0, 1) := by decide +kernel
theorem dX11_comesNow_164 : decode cX11_comesNow 164 = .ok (.getfield 19, 3) := by decide +kernel
theorem dX11_comesNow_167 : decode cX11_comesNow 167 = .ok (.iload_n 1, 1) := by decide +kernel
theorem dX11_comesNow_168 : decode cX11_comesNow 168 = .ok (.iaload, 1) := by decide +kernel
theorem dX11_comesNow_169 : decode cX11_comesNow 169 = .ok (.invokevirtual 114, 3) := by decide +kernel
theorem dX11_comesNow_172 : decode cX11_comesNow 172 = .ok (.aload_n 0, 1) := by decide +kernel
theorem dX11_comesNow_173 : decode cX11_comesNow 173 = .ok (.iload_n 3, 1) := by decide +kernel
theorem dX11_comesNow_174 : decode cX11_comesNow 174 = .ok (.iconst 5, 1) := by decide +kernel
theorem dX11_comesNow_175 : decode cX11_comesNow 175 = .ok (.aload_n 0, 1) := by decide +kernel
theorem dX11_comesNow_176 : decode cX11_comesNow 176 = .ok (.getfield 13, 3) := by decide +kernel
theorem dX11_comesNow_179 : decode cX11_comesNow 179 = .ok (.iload_n 1, 1) := by decide +kernel
theorem dX11_comesNow_180 : decode cX11_comesNow 180 = .ok (.iaload, 1) := by decide +kernel
theorem dX11_comesNow_181 : decode cX11_comesNow 181 = .ok (.invokevirtual 114, 3) := by decide +kernel
theorem dX11_comesNow_184 : decode cX11_comesNow 184 = .ok (.aload_n 0, 1) := by decide +kernel
theorem dX11_comesNow_185 : decode cX11_comesNow 185 = .ok (.iload_n 3, 1) := by decide +kernel
theorem dX11_comesNow_186 : decode cX11_comesNow 186 = .ok (.bipush 6, 2) := by decide +kernel
theorem dX11_comesNow_188 : decode cX11_comesNow 188 = .ok (.iload_n 1, 1) := by decide +kernel
theorem dX11_comesNow_189 : decode cX11_comesNow 189 = .ok (.invokevirtual 114, 3) := by decide +kernel
theorem dX11_comesNow_192 : decode cX11_comesNow 192 = .ok (.aload_n 0, 1) := by decide +kernel
theorem dX11_comesNow_193 : decode cX11_comesNow 193 = .ok (.iload_n 3, 1) := by decide +kernel
theorem dX11_comesNow_194 : decode cX11_comesNow 194 = .ok (.bipush 7, 2) := by decide +kernel
theorem dX11_comesNow_196 : decode cX11_comesNow 196 = .ok (.aload_n 0, 1) := by decide +kernel
theorem dX11_comesNow_197 : decode cX11_comesNow 197 = .ok (.getfield 16, 3) := by decide +kernel
theorem dX11_comesNow_200 : decode cX11_comesNow 200 = .ok (.iload_n 1, 1) := by decide +kernel
theorem dX11_comesNow_201 : decode cX11_comesNow 201 = .ok (.iaload, 1) := by decide +kernel
theorem dX11_comesNow_202 : decode cX11_comesNow 202 = .ok (.invokevirtual 114, 3) := by decide +kernel
theorem dX11_comesNow_205 : decode cX11_comesNow 205 = .ok (.aload_n 0, 1) := by decide +kernel
theorem dX11_comesNow_206 : decode cX11_comesNow 206 = .ok (.iload_n 3, 1) := by decide +kernel
theorem dX11_comesNow_207 : decode cX11_comesNow 207 = .ok (.bipush 8, 2) := by decide +kernel
theorem dX11_comesNow_209 : decode cX11_comesNow 209 = .ok (.aload_n 0, 1) := by decide +kernel
theorem dX11_comesNow_210 : decode cX11_comesNow 210 = .ok (.iload_n 1, 1) := by decide +kernel
theorem dX11_comesNow_211 : decode cX11_comesNow 211 = .ok (.iconst 4, 1) := by decide +kernel
theorem dX11_comesNow_212 : decode cX11_comesNow 212 = .ok (.invokevirtual 92, 3) := by decide +kernel
theorem dX11_comesNow_215 : decode cX11_comesNow 215 = .ok (.invokevirtual 114, 3) := by decide +kernel
theorem dX11_comesNow_218 : decode cX11_comesNow 218 = .ok (.aload_n 0, 1) := by decide +kernel
theorem dX11_comesNow_219 : decode cX11_comesNow 219 = .ok (.iload_n 3, 1) := by decide +kernel
theorem dX11_comesNow_220 : decode cX11_comesNow 220 = .ok (.bipush 9, 2) := by decide +kernel
theorem dX11_comesNow_222 : decode cX11_comesNow 222 = .ok (.iconst 0, 1) := by decide +kernel
theorem dX11_comesNow_223 : decode cX11_comesNow 223 = .ok (.invokevirtual 114, 3) := by decide +kernel
theorem dX11_comesNow_226 : decode cX11_comesNow 226 = .ok (.aload_n 0, 1) := by decide +kernel
theorem dX11_comesNow_227 : decode cX11_comesNow 227 = .ok (.iload_n 3, 1) := by decide +kernel
theorem dX11_comesNow_228 : decode cX11_comesNow 228 = .ok (.bipush 10, 2) := by decide +kernel
theorem dX11_comesNow_230 : decode cX11_comesNow 230 = .ok (.bipush (-4), 2) := by decide +kernel
theorem dX11_comesNow_232 : decode cX11_comesNow 232 = .ok (.invokevirtual 114, 3) := by decide +kernel
theorem dX11_comesNow_235 : decode cX11_comesNow 235 = .ok (.aload_n 0, 1) := by decide +kernel
theorem dX11_comesNow_236 : decode cX11_comesNow 236 = .ok (.iload_n 3, 1) := by decide +kernel
theorem dX11_comesNow_237 : decode cX11_comesNow 237 = .ok (.bipush 11, 2) := by decide +kernel
theorem dX11_comesNow_239 : decode cX11_comesNow 239 = .ok (.bipush (-4), 2) := by decide +kernel
theorem dX11_comesNow_241 : decode cX11_comesNow 241 = .ok (.invokevirtual 114, 3) := by decide +kernel
theorem dX11_comesNow_244 : decode cX11_comesNow 244 = .ok (.aload_n 0, 1) := by decide +kernel
theorem dX11_comesNow_245 : decode cX11_comesNow 245 = .ok (.iload_n 3, 1) := by decide +kernel
theorem dX11_comesNow_246 : decode cX11_comesNow 246 = .ok (.bipush 12, 2) := by decide +kernel
theorem dX11_comesNow_248 : decode cX11_comesNow 248 = .ok (.iconst 1, 1) := by decide +kernel
theorem dX11_comesNow_249 : decode cX11_comesNow 249 = .ok (.invokevirtual 114, 3) := by decide +kernel
theorem dX11_comesNow_252 : decode cX11_comesNow 252 = .ok (.aload_n 0, 1) := by decide +kernel
theorem dX11_comesNow_253 : decode cX11_comesNow 253 = .ok (.getfield 19, 3) := by decide +kernel
theorem dX11_comesNow_256 : decode cX11_comesNow 256 = .ok (.iload_n 1, 1) := by decide +kernel
theorem dX11_comesNow_257 : decode cX11_comesNow 257 = .ok (.dup2, 1) := by decide +kernel
theorem dX11_comesNow_258 : decode cX11_comesNow 258 = .ok (.iaload, 1) := by decide +kernel
theorem dX11_comesNow_259 : decode cX11_comesNow 259 = .ok (.iconst 1, 1) := by decide +kernel
theorem dX11_comesNow_260 : decode cX11_comesNow 260 = .ok (.iadd, 1) := by decide +kernel
theorem dX11_comesNow_261 : decode cX11_comesNow 261 = .ok (.iastore, 1) := by decide +kernel
theorem dX11_comesNow_262 : decode cX11_comesNow 262 = .ok (.aload_n 0, 1) := by decide +kernel
theorem dX11_comesNow_263 : decode cX11_comesNow 263 = .ok (.invokevirtual 118, 3) := by decide +kernel
theorem dX11_comesNow_266 : decode cX11_comesNow 266 = .ok (.aload_n 0, 1) := by decide +kernel
theorem dX11_comesNow_267 : decode cX11_comesNow 267 = .ok (.getfield 65, 3) := by decide +kernel
theorem dX11_comesNow_270 : decode cX11_comesNow 270 = .ok (.if_icmp .le 37, 3) := by decide +kernel
theorem dX11_comesNow_273 : decode cX11_comesNow 273 = .ok (.aload_n 0, 1) := by decide +kernel
theorem dX11_comesNow_274 : decode cX11_comesNow 274 = .ok (.aload_n 0, 1) := by decide +kernel
theorem dX11_comesNow_275 : decode cX11_comesNow 275 = .ok (.getfield 122, 3) := by decide +kernel
theorem dX11_comesNow_278 : decode cX11_comesNow 278 = .ok (.ifCond .ne 7, 3) := by decide +kernel
theorem dX11_comesNow_281 : decode cX11_comesNow 281 = .ok (.iload_n 3, 1) := by decide +kernel
theorem dX11_comesNow_282 : decode cX11_comesNow 282 = .ok (.goto 22, 3) := by decide +kernel
theorem dX11_comesNow_285 : decode cX11_comesNow 285 = .ok (.aload_n 0, 1) := by decide +kernel
theorem dX11_comesNow_286 : decode cX11_comesNow 286 = .ok (.getfield 122, 3) := by decide +kernel
theorem dX11_comesNow_289 : decode cX11_comesNow 289 = .ok (.iconst 1, 1) := by decide +kernel
theorem dX11_comesNow_290 : decode cX11_comesNow 290 = .ok (.if_icmp .ne 10, 3) := by decide +kernel
theorem dX11_comesNow_293 : decode cX11_comesNow 293 = .ok (.aload_n 0, 1) := by decide +kernel
theorem dX11_comesNow_294 : decode cX11_comesNow 294 = .ok (.invokevirtual 125, 3) := by decide +kernel
theorem dX11_comesNow_297 : decode cX11_comesNow 297 = .ok (.goto 7, 3) := by decide +kernel
theorem dX11_comesNow_300 : decode cX11_comesNow 300 = .ok (.aload_n 0, 1) := by decide +kernel
theorem dX11_comesNow_301 : decode cX11_comesNow 301 = .ok (.invokevirtual 128, 3) := by decide +kernel
theorem dX11_comesNow_304 : decode cX11_comesNow 304 = .ok (.invokevirtual 131, 3) := by decide +kernel
theorem dX11_comesNow_307 : decode cX11_comesNow 307 = .ok (.iload_n 3, 1) := by decide +kernel
theorem dX11_comesNow_308 : decode cX11_comesNow 308 = .ok (.ireturn, 1) := by decide +kernel
theorem dX11_drops_0 : decode cX11_drops 0 = .ok (.aload_n 0, 1) := by decide +kernel
theorem dX11_drops_1 : decode cX11_drops 1 = .ok (.iload_n 1, 1) := by decide +kernel
theorem dX11_drops_2 : decode cX11_drops 2 = .ok (.bipush 9, 2) := by decide +kernel
theorem dX11_drops_4 : decode cX11_drops 4 = .ok (.iconst 3, 1) := by decide +kernel
theorem dX11_drops_5 : decode cX11_drops 5 = .ok (.invokevirtual 114, 3) := by decide +kernel
theorem dX11_drops_8 : decode cX11_drops 8 = .ok (.iload_n 1, 1) := by decide +kernel
theorem dX11_drops_9 : decode cX11_drops 9 = .ok (.istore_n 2, 1) := by decide +kernel
theorem dX11_drops_10 : decode cX11_drops 10 = .ok (.aload_n 0, 1) := by decide +kernel
theorem dX11_drops_11 : decode cX11_drops 11 = .ok (.iload_n 1, 1) := by decide +kernel
theorem dX11_drops_12 : decode cX11_drops 12 = .ok (.bipush 12, 2) := by decide +kernel
theorem dX11_drops_14 : decode cX11_drops 14 = .ok (.invokevirtual 99, 3) := by decide +kernel
theorem dX11_drops_17 : decode cX11_drops 17 = .ok (.ifCond .ne 53, 3) := by decide +kernel
theorem dX11_drops_20 : decode cX11_drops 20 = .ok (.iconst 0, 1) := by decide +kernel
theorem dX11_drops_21 : decode cX11_drops 21 = .ok (.istore_n 3, 1) := by decide +kernel
theorem dX11_drops_22 : decode cX11_drops 22 = .ok (.iload_n 3, 1) := by decide +kernel
theorem dX11_drops_23 : decode cX11_drops 23 = .ok (.aload_n 0, 1) := by decide +kernel
theorem dX11_drops_24 : decode cX11_drops 24 = .ok (.getfield 96, 3) := by decide +kernel
theorem dX11_drops_27 : decode cX11_drops 27 = .ok (.if_icmp .ge 43, 3) := by decide +kernel
theorem dX11_drops_30 : decode cX11_drops 30 = .ok (.aload_n 0, 1) := by decide +kernel
theorem dX11_drops_31 : decode cX11_drops 31 = .ok (.iload_n 3, 1) := by decide +kernel
theorem dX11_drops_32 : decode cX11_drops 32 = .ok (.bipush 12, 2) := by decide +kernel
theorem dX11_drops_34 : decode cX11_drops 34 = .ok (.invokevirtual 99, 3) := by decide +kernel
theorem dX11_drops_37 : decode cX11_drops 37 = .ok (.iconst 1, 1) := by decide +kernel
theorem dX11_drops_38 : decode cX11_drops 38 = .ok (.if_icmp .ne 24, 3) := by decide +kernel
theorem dX11_drops_41 : decode cX11_drops 41 = .ok (.aload_n 0, 1) := by decide +kernel
theorem dX11_drops_42 : decode cX11_drops 42 = .ok (.iload_n 3, 1) := by decide +kernel
theorem dX11_drops_43 : decode cX11_drops 43 = .ok (.bipush 8, 2) := by decide +kernel
theorem dX11_drops_45 : decode cX11_drops 45 = .ok (.invokevirtual 99, 3) := by decide +kernel
theorem dX11_drops_48 : decode cX11_drops 48 = .ok (.aload_n 0, 1) := by decide +kernel
theorem dX11_drops_49 : decode cX11_drops 49 = .ok (.iload_n 1, 1) := by decide +kernel
theorem dX11_drops_50 : decode cX11_drops 50 = .ok (.bipush 8, 2) := by decide +kernel
theorem dX11_drops_52 : decode cX11_drops 52 = .ok (.invokevirtual 99, 3) := by decide +kernel
theorem dX11_drops_55 : decode cX11_drops 55 = .ok (.if_icmp .ne 7, 3) := by decide +kernel
theorem dX11_drops_58 : decode cX11_drops 58 = .ok (.iload_n 3, 1) := by decide +kernel
theorem dX11_drops_59 : decode cX11_drops 59 = .ok (.goto 4, 3) := by decide +kernel
theorem dX11_drops_62 : decode cX11_drops 62 = .ok (.iload_n 2, 1) := by decide +kernel
theorem dX11_drops_63 : decode cX11_drops 63 = .ok (.istore_n 2, 1) := by decide +kernel
theorem dX11_drops_64 : decode cX11_drops 64 = .ok (.iinc 3 1, 3) := by decide +kernel
theorem dX11_drops_67 : decode cX11_drops 67 = .ok (.goto (-45), 3) := by decide +kernel
theorem dX11_drops_70 : decode cX11_drops 70 = .ok (.aload_n 0, 1) := by decide +kernel
theorem dX11_drops_71 : decode cX11_drops 71 = .ok (.iload_n 2, 1) := by decide +kernel
theorem dX11_drops_72 : decode cX11_drops 72 = .ok (.bipush 12, 2) := by decide +kernel
theorem dX11_drops_74 : decode cX11_drops 74 = .ok (.iconst 0, 1) := by decide +kernel
theorem dX11_drops_75 : decode cX11_drops 75 = .ok (.invokevirtual 114, 3) := by decide +kernel
theorem dX11_drops_78 : decode cX11_drops 78 = .ok (.return_, 1) := by decide +kernel
theorem dX11_greatest_0 : decode cX11_greatest 0 = .ok (.bipush (-4), 2) := by decide +kernel
theorem dX11_greatest_2 : decode cX11_greatest 2 = .ok (.istore_n 1, 1) := by decide +kernel
theorem dX11_greatest_3 : decode cX11_greatest 3 = .ok (.iconst 0, 1) := by decide +kernel
theorem dX11_greatest_4 : decode cX11_greatest 4 = .ok (.istore_n 2, 1) := by decide +kernel
theorem dX11_greatest_5 : decode cX11_greatest 5 = .ok (.iload_n 2, 1) := by decide +kernel
theorem dX11_greatest_6 : decode cX11_greatest 6 = .ok (.aload_n 0, 1) := by decide +kernel
theorem dX11_greatest_7 : decode cX11_greatest 7 = .ok (.getfield 96, 3) := by decide +kernel
theorem dX11_greatest_10 : decode cX11_greatest 10 = .ok (.if_icmp .ge 47, 3) := by decide +kernel
theorem dX11_greatest_13 : decode cX11_greatest 13 = .ok (.aload_n 0, 1) := by decide +kernel
theorem dX11_greatest_14 : decode cX11_greatest 14 = .ok (.iload_n 2, 1) := by decide +kernel
theorem dX11_greatest_15 : decode cX11_greatest 15 = .ok (.bipush 9, 2) := by decide +kernel
theorem dX11_greatest_17 : decode cX11_greatest 17 = .ok (.invokevirtual 99, 3) := by decide +kernel
theorem dX11_greatest_20 : decode cX11_greatest 20 = .ok (.ifCond .ne 29, 3) := by decide +kernel
theorem dX11_greatest_23 : decode cX11_greatest 23 = .ok (.iload_n 1, 1) := by decide +kernel
theorem dX11_greatest_24 : decode cX11_greatest 24 = .ok (.bipush (-4), 2) := by decide +kernel
theorem dX11_greatest_26 : decode cX11_greatest 26 = .ok (.if_icmp .eq 19, 3) := by decide +kernel
theorem dX11_greatest_29 : decode cX11_greatest 29 = .ok (.aload_n 0, 1) := by decide +kernel
theorem dX11_greatest_30 : decode cX11_greatest 30 = .ok (.iload_n 2, 1) := by decide +kernel
theorem dX11_greatest_31 : decode cX11_greatest 31 = .ok (.iconst 0, 1) := by decide +kernel
theorem dX11_greatest_32 : decode cX11_greatest 32 = .ok (.invokevirtual 134, 3) := by decide +kernel
theorem dX11_greatest_35 : decode cX11_greatest 35 = .ok (.aload_n 0, 1) := by decide +kernel
theorem dX11_greatest_36 : decode cX11_greatest 36 = .ok (.iload_n 1, 1) := by decide +kernel
theorem dX11_greatest_37 : decode cX11_greatest 37 = .ok (.iconst 0, 1) := by decide +kernel
theorem dX11_greatest_38 : decode cX11_greatest 38 = .ok (.invokevirtual 134, 3) := by decide +kernel
theorem dX11_greatest_41 : decode cX11_greatest 41 = .ok (.lcmp, 1) := by decide +kernel
theorem dX11_greatest_42 : decode cX11_greatest 42 = .ok (.ifCond .lt 7, 3) := by decide +kernel
theorem dX11_greatest_45 : decode cX11_greatest 45 = .ok (.iload_n 2, 1) := by decide +kernel
theorem dX11_greatest_46 : decode cX11_greatest 46 = .ok (.goto 4, 3) := by decide +kernel
theorem dX11_greatest_49 : decode cX11_greatest 49 = .ok (.iload_n 1, 1) := by decide +kernel
theorem dX11_greatest_50 : decode cX11_greatest 50 = .ok (.istore_n 1, 1) := by decide +kernel
theorem dX11_greatest_51 : decode cX11_greatest 51 = .ok (.iinc 2 1, 3) := by decide +kernel
theorem dX11_greatest_54 : decode cX11_greatest 54 = .ok (.goto (-49), 3) := by decide +kernel
theorem dX11_greatest_57 : decode cX11_greatest 57 = .ok (.iload_n 1, 1) := by decide +kernel
theorem dX11_greatest_58 : decode cX11_greatest 58 = .ok (.ireturn, 1) := by decide +kernel
theorem dX11_ofMost_0 : decode cX11_ofMost 0 = .ok (.bipush (-4), 2) := by decide +kernel
theorem dX11_ofMost_2 : decode cX11_ofMost 2 = .ok (.istore_n 1, 1) := by decide +kernel
theorem dX11_ofMost_3 : decode cX11_ofMost 3 = .ok (.bipush (-4), 2) := by decide +kernel
theorem dX11_ofMost_5 : decode cX11_ofMost 5 = .ok (.istore_n 2, 1) := by decide +kernel
theorem dX11_ofMost_6 : decode cX11_ofMost 6 = .ok (.iconst 0, 1) := by decide +kernel
theorem dX11_ofMost_7 : decode cX11_ofMost 7 = .ok (.istore_n 3, 1) := by decide +kernel
theorem dX11_ofMost_8 : decode cX11_ofMost 8 = .ok (.iload_n 3, 1) := by decide +kernel
theorem dX11_ofMost_9 : decode cX11_ofMost 9 = .ok (.bipush 8, 2) := by decide +kernel
theorem dX11_ofMost_11 : decode cX11_ofMost 11 = .ok (.if_icmp .ge 76, 3) := by decide +kernel
theorem dX11_ofMost_14 : decode cX11_ofMost 14 = .ok (.iconst 0, 1) := by decide +kernel
theorem dX11_ofMost_15 : decode cX11_ofMost 15 = .ok (.istore 4, 2) := by decide +kernel
theorem dX11_ofMost_17 : decode cX11_ofMost 17 = .ok (.bipush (-4), 2) := by decide +kernel
theorem dX11_ofMost_19 : decode cX11_ofMost 19 = .ok (.istore 5, 2) := by decide +kernel
theorem dX11_ofMost_21 : decode cX11_ofMost 21 = .ok (.iconst 0, 1) := by decide +kernel
theorem dX11_ofMost_22 : decode cX11_ofMost 22 = .ok (.istore 6, 2) := by decide +kernel
theorem dX11_ofMost_24 : decode cX11_ofMost 24 = .ok (.iload 6, 2) := by decide +kernel
theorem dX11_ofMost_26 : decode cX11_ofMost 26 = .ok (.aload_n 0, 1) := by decide +kernel
theorem dX11_ofMost_27 : decode cX11_ofMost 27 = .ok (.getfield 96, 3) := by decide +kernel
theorem dX11_ofMost_30 : decode cX11_ofMost 30 = .ok (.if_icmp .ge 39, 3) := by decide +kernel
theorem dX11_ofMost_33 : decode cX11_ofMost 33 = .ok (.aload_n 0, 1) := by decide +kernel
theorem dX11_ofMost_34 : decode cX11_ofMost 34 = .ok (.iload 6, 2) := by decide +kernel
theorem dX11_ofMost_36 : decode cX11_ofMost 36 = .ok (.bipush 9, 2) := by decide +kernel
theorem dX11_ofMost_38 : decode cX11_ofMost 38 = .ok (.invokevirtual 99, 3) := by decide +kernel
theorem dX11_ofMost_41 : decode cX11_ofMost 41 = .ok (.ifCond .ne 22, 3) := by decide +kernel
theorem dX11_ofMost_44 : decode cX11_ofMost 44 = .ok (.aload_n 0, 1) := by decide +kernel
theorem dX11_ofMost_45 : decode cX11_ofMost 45 = .ok (.iload 6, 2) := by decide +kernel
theorem dX11_ofMost_47 : decode cX11_ofMost 47 = .ok (.bipush 6, 2) := by decide +kernel
theorem dX11_ofMost_49 : decode cX11_ofMost 49 = .ok (.invokevirtual 99, 3) := by decide +kernel
theorem dX11_ofMost_52 : decode cX11_ofMost 52 = .ok (.iload_n 3, 1) := by decide +kernel
theorem dX11_ofMost_53 : decode cX11_ofMost 53 = .ok (.if_icmp .ne 10, 3) := by decide +kernel
theorem dX11_ofMost_56 : decode cX11_ofMost 56 = .ok (.iinc 4 1, 3) := by decide +kernel
theorem dX11_ofMost_59 : decode cX11_ofMost 59 = .ok (.iload 6, 2) := by decide +kernel
theorem dX11_ofMost_61 : decode cX11_ofMost 61 = .ok (.istore 5, 2) := by decide +kernel
theorem dX11_ofMost_63 : decode cX11_ofMost 63 = .ok (.iinc 6 1, 3) := by decide +kernel
theorem dX11_ofMost_66 : decode cX11_ofMost 66 = .ok (.goto (-42), 3) := by decide +kernel
theorem dX11_ofMost_69 : decode cX11_ofMost 69 = .ok (.iload 4, 2) := by decide +kernel
theorem dX11_ofMost_71 : decode cX11_ofMost 71 = .ok (.iload_n 1, 1) := by decide +kernel
theorem dX11_ofMost_72 : decode cX11_ofMost 72 = .ok (.if_icmp .le 9, 3) := by decide +kernel
theorem dX11_ofMost_75 : decode cX11_ofMost 75 = .ok (.iload 4, 2) := by decide +kernel
theorem dX11_ofMost_77 : decode cX11_ofMost 77 = .ok (.istore_n 1, 1) := by decide +kernel
theorem dX11_ofMost_78 : decode cX11_ofMost 78 = .ok (.iload 5, 2) := by decide +kernel
theorem dX11_ofMost_80 : decode cX11_ofMost 80 = .ok (.istore_n 2, 1) := by decide +kernel
theorem dX11_ofMost_81 : decode cX11_ofMost 81 = .ok (.iinc 3 1, 3) := by decide +kernel
theorem dX11_ofMost_84 : decode cX11_ofMost 84 = .ok (.goto (-76), 3) := by decide +kernel
theorem dX11_ofMost_87 : decode cX11_ofMost 87 = .ok (.iload_n 2, 1) := by decide +kernel
theorem dX11_ofMost_88 : decode cX11_ofMost 88 = .ok (.ireturn, 1) := by decide +kernel
theorem dX11_isSheet_0 : decode cX11_isSheet 0 = .ok (.iload_n 0, 1) := by decide +kernel
theorem dX11_isSheet_1 : decode cX11_isSheet 1 = .ok (.i2l, 1) := by decide +kernel
theorem dX11_isSheet_2 : decode cX11_isSheet 2 = .ok (.lconst 0, 1) := by decide +kernel
theorem dX11_isSheet_3 : decode cX11_isSheet 3 = .ok (.ldc2_w 82, 3) := by decide +kernel
theorem dX11_isSheet_6 : decode cX11_isSheet 6 = .ok (.invokestatic 70, 3) := by decide +kernel
theorem dX11_isSheet_9 : decode cX11_isSheet 9 = .ok (.ireturn, 1) := by decide +kernel
theorem dX11_isLane_0 : decode cX11_isLane 0 = .ok (.iload_n 0, 1) := by decide +kernel
theorem dX11_isLane_1 : decode cX11_isLane 1 = .ok (.i2l, 1) := by decide +kernel
theorem dX11_isLane_2 : decode cX11_isLane 2 = .ok (.lconst 0, 1) := by decide +kernel
theorem dX11_isLane_3 : decode cX11_isLane 3 = .ok (.ldc2_w 138, 3) := by decide +kernel
theorem dX11_isLane_6 : decode cX11_isLane 6 = .ok (.invokestatic 70, 3) := by decide +kernel
theorem dX11_isLane_9 : decode cX11_isLane 9 = .ok (.ireturn, 1) := by decide +kernel
theorem dX11_wrong_0 : decode cX11_wrong 0 = .ok (.aload_n 0, 1) := by decide +kernel
theorem dX11_wrong_1 : decode cX11_wrong 1 = .ok (.getfield 34, 3) := by decide +kernel
theorem dX11_wrong_4 : decode cX11_wrong 4 = .ok (.iload_n 1, 1) := by decide +kernel
theorem dX11_wrong_5 : decode cX11_wrong 5 = .ok (.iaload, 1) := by decide +kernel
theorem dX11_wrong_6 : decode cX11_wrong 6 = .ok (.bipush (-4), 2) := by decide +kernel
theorem dX11_wrong_8 : decode cX11_wrong 8 = .ok (.if_icmp .ne 8, 3) := by decide +kernel
theorem dX11_wrong_11 : decode cX11_wrong 11 = .ok (.bipush (-11), 2) := by decide +kernel
theorem dX11_wrong_13 : decode cX11_wrong 13 = .ok (.goto 50, 3) := by decide +kernel
theorem dX11_wrong_16 : decode cX11_wrong 16 = .ok (.aload_n 0, 1) := by decide +kernel
theorem dX11_wrong_17 : decode cX11_wrong 17 = .ok (.getfield 34, 3) := by decide +kernel
theorem dX11_wrong_20 : decode cX11_wrong 20 = .ok (.iload_n 1, 1) := by decide +kernel
theorem dX11_wrong_21 : decode cX11_wrong 21 = .ok (.iaload, 1) := by decide +kernel
theorem dX11_wrong_22 : decode cX11_wrong 22 = .ok (.iload_n 2, 1) := by decide +kernel
theorem dX11_wrong_23 : decode cX11_wrong 23 = .ok (.if_icmp .eq 8, 3) := by decide +kernel
theorem dX11_wrong_26 : decode cX11_wrong 26 = .ok (.bipush (-12), 2) := by decide +kernel
theorem dX11_wrong_28 : decode cX11_wrong 28 = .ok (.goto 35, 3) := by decide +kernel
theorem dX11_wrong_31 : decode cX11_wrong 31 = .ok (.iload_n 3, 1) := by decide +kernel
theorem dX11_wrong_32 : decode cX11_wrong 32 = .ok (.ifCond .lt 25, 3) := by decide +kernel
theorem dX11_wrong_35 : decode cX11_wrong 35 = .ok (.iload 4, 2) := by decide +kernel
theorem dX11_wrong_37 : decode cX11_wrong 37 = .ok (.ifCond .lt 20, 3) := by decide +kernel
theorem dX11_wrong_40 : decode cX11_wrong 40 = .ok (.iload_n 3, 1) := by decide +kernel
theorem dX11_wrong_41 : decode cX11_wrong 41 = .ok (.i2l, 1) := by decide +kernel
theorem dX11_wrong_42 : decode cX11_wrong 42 = .ok (.iload 4, 2) := by decide +kernel
theorem dX11_wrong_44 : decode cX11_wrong 44 = .ok (.i2l, 1) := by decide +kernel
theorem dX11_wrong_45 : decode cX11_wrong 45 = .ok (.ladd, 1) := by decide +kernel
theorem dX11_wrong_46 : decode cX11_wrong 46 = .ok (.aload_n 0, 1) := by decide +kernel
theorem dX11_wrong_47 : decode cX11_wrong 47 = .ok (.getfield 37, 3) := by decide +kernel
theorem dX11_wrong_50 : decode cX11_wrong 50 = .ok (.iload_n 1, 1) := by decide +kernel
theorem dX11_wrong_51 : decode cX11_wrong 51 = .ok (.iaload, 1) := by decide +kernel
theorem dX11_wrong_52 : decode cX11_wrong 52 = .ok (.i2l, 1) := by decide +kernel
theorem dX11_wrong_53 : decode cX11_wrong 53 = .ok (.lcmp, 1) := by decide +kernel
theorem dX11_wrong_54 : decode cX11_wrong 54 = .ok (.ifCond .le 8, 3) := by decide +kernel
theorem dX11_wrong_57 : decode cX11_wrong 57 = .ok (.bipush (-13), 2) := by decide +kernel
theorem dX11_wrong_59 : decode cX11_wrong 59 = .ok (.goto 4, 3) := by decide +kernel
theorem dX11_wrong_62 : decode cX11_wrong 62 = .ok (.iconst 1, 1) := by decide +kernel
theorem dX11_wrong_63 : decode cX11_wrong 63 = .ok (.ireturn, 1) := by decide +kernel
theorem dX11_itemOf_0 : decode cX11_itemOf 0 = .ok (.aload_n 0, 1) := by decide +kernel
theorem dX11_itemOf_1 : decode cX11_itemOf 1 = .ok (.getfield 40, 3) := by decide +kernel
theorem dX11_itemOf_4 : decode cX11_itemOf 4 = .ok (.bipush 24, 2) := by decide +kernel
theorem dX11_itemOf_6 : decode cX11_itemOf 6 = .ok (.iload_n 1, 1) := by decide +kernel
theorem dX11_itemOf_7 : decode cX11_itemOf 7 = .ok (.imul, 1) := by decide +kernel
theorem dX11_itemOf_8 : decode cX11_itemOf 8 = .ok (.iload_n 2, 1) := by decide +kernel
theorem dX11_itemOf_9 : decode cX11_itemOf 9 = .ok (.iadd, 1) := by decide +kernel
theorem dX11_itemOf_10 : decode cX11_itemOf 10 = .ok (.iaload, 1) := by decide +kernel
theorem dX11_itemOf_11 : decode cX11_itemOf 11 = .ok (.ireturn, 1) := by decide +kernel
theorem dX11_sheet_0 : decode cX11_sheet 0 = .ok (.iload_n 1, 1) := by decide +kernel
theorem dX11_sheet_1 : decode cX11_sheet 1 = .ok (.invokestatic 140, 3) := by decide +kernel
theorem dX11_sheet_4 : decode cX11_sheet 4 = .ok (.ifCond .eq 16, 3) := by decide +kernel
theorem dX11_sheet_7 : decode cX11_sheet 7 = .ok (.iload_n 2, 1) := by decide +kernel
theorem dX11_sheet_8 : decode cX11_sheet 8 = .ok (.invokestatic 143, 3) := by decide +kernel
theorem dX11_sheet_11 : decode cX11_sheet 11 = .ok (.ifCond .eq 9, 3) := by decide +kernel
theorem dX11_sheet_14 : decode cX11_sheet 14 = .ok (.iload_n 3, 1) := by decide +kernel
theorem dX11_sheet_15 : decode cX11_sheet 15 = .ok (.bipush 24, 2) := by decide +kernel
theorem dX11_sheet_17 : decode cX11_sheet 17 = .ok (.if_icmp .le 5, 3) := by decide +kernel
theorem dX11_sheet_20 : decode cX11_sheet 20 = .ok (.iconst (-1), 1) := by decide +kernel
theorem dX11_sheet_21 : decode cX11_sheet 21 = .ok (.ireturn, 1) := by decide +kernel
theorem dX11_sheet_22 : decode cX11_sheet 22 = .ok (.iload_n 3, 1) := by decide +kernel
theorem dX11_sheet_23 : decode cX11_sheet 23 = .ok (.ifCond .ge 6, 3) := by decide +kernel
theorem dX11_sheet_26 : decode cX11_sheet 26 = .ok (.bipush (-14), 2) := by decide +kernel
theorem dX11_sheet_28 : decode cX11_sheet 28 = .ok (.ireturn, 1) := by decide +kernel
theorem dX11_sheet_29 : decode cX11_sheet 29 = .ok (.aload_n 0, 1) := by decide +kernel
theorem dX11_sheet_30 : decode cX11_sheet 30 = .ok (.getfield 34, 3) := by decide +kernel
theorem dX11_sheet_33 : decode cX11_sheet 33 = .ok (.iload_n 1, 1) := by decide +kernel
theorem dX11_sheet_34 : decode cX11_sheet 34 = .ok (.iload_n 2, 1) := by decide +kernel
theorem dX11_sheet_35 : decode cX11_sheet 35 = .ok (.iastore, 1) := by decide +kernel
theorem dX11_sheet_36 : decode cX11_sheet 36 = .ok (.aload_n 0, 1) := by decide +kernel
theorem dX11_sheet_37 : decode cX11_sheet 37 = .ok (.getfield 37, 3) := by decide +kernel
theorem dX11_sheet_40 : decode cX11_sheet 40 = .ok (.iload_n 1, 1) := by decide +kernel
theorem dX11_sheet_41 : decode cX11_sheet 41 = .ok (.iload_n 3, 1) := by decide +kernel
theorem dX11_sheet_42 : decode cX11_sheet 42 = .ok (.iastore, 1) := by decide +kernel
theorem dX11_sheet_43 : decode cX11_sheet 43 = .ok (.iconst 0, 1) := by decide +kernel
theorem dX11_sheet_44 : decode cX11_sheet 44 = .ok (.istore 4, 2) := by decide +kernel
theorem dX11_sheet_46 : decode cX11_sheet 46 = .ok (.iload 4, 2) := by decide +kernel
theorem dX11_sheet_48 : decode cX11_sheet 48 = .ok (.bipush 24, 2) := by decide +kernel
theorem dX11_sheet_50 : decode cX11_sheet 50 = .ok (.if_icmp .ge 22, 3) := by decide +kernel
theorem dX11_sheet_53 : decode cX11_sheet 53 = .ok (.aload_n 0, 1) := by decide +kernel
theorem dX11_sheet_54 : decode cX11_sheet 54 = .ok (.getfield 40, 3) := by decide +kernel
theorem dX11_sheet_57 : decode cX11_sheet 57 = .ok (.bipush 24, 2) := by decide +kernel
theorem dX11_sheet_59 : decode cX11_sheet 59 = .ok (.iload_n 1, 1) := by decide +kernel
theorem dX11_sheet_60 : decode cX11_sheet 60 = .ok (.imul, 1) := by decide +kernel
theorem dX11_sheet_61 : decode cX11_sheet 61 = .ok (.iload 4, 2) := by decide +kernel
theorem dX11_sheet_63 : decode cX11_sheet 63 = .ok (.iadd, 1) := by decide +kernel
theorem dX11_sheet_64 : decode cX11_sheet 64 = .ok (.iconst 0, 1) := by decide +kernel
theorem dX11_sheet_65 : decode cX11_sheet 65 = .ok (.iastore, 1) := by decide +kernel
theorem dX11_sheet_66 : decode cX11_sheet 66 = .ok (.iinc 4 1, 3) := by decide +kernel
theorem dX11_sheet_69 : decode cX11_sheet 69 = .ok (.goto (-23), 3) := by decide +kernel
theorem dX11_sheet_72 : decode cX11_sheet 72 = .ok (.iload_n 3, 1) := by decide +kernel
theorem dX11_sheet_73 : decode cX11_sheet 73 = .ok (.ireturn, 1) := by decide +kernel
theorem dX11_drop_0 : decode cX11_drop 0 = .ok (.iload_n 1, 1) := by decide +kernel
theorem dX11_drop_1 : decode cX11_drop 1 = .ok (.invokestatic 140, 3) := by decide +kernel
theorem dX11_drop_4 : decode cX11_drop 4 = .ok (.ifCond .ne 5, 3) := by decide +kernel
theorem dX11_drop_7 : decode cX11_drop 7 = .ok (.iconst (-1), 1) := by decide +kernel
theorem dX11_drop_8 : decode cX11_drop 8 = .ok (.ireturn, 1) := by decide +kernel
theorem dX11_drop_9 : decode cX11_drop 9 = .ok (.aload_n 0, 1) := by decide +kernel
theorem dX11_drop_10 : decode cX11_drop 10 = .ok (.getfield 34, 3) := by decide +kernel
theorem dX11_drop_13 : decode cX11_drop 13 = .ok (.iload_n 1, 1) := by decide +kernel
theorem dX11_drop_14 : decode cX11_drop 14 = .ok (.iaload, 1) := by decide +kernel
theorem dX11_drop_15 : decode cX11_drop 15 = .ok (.bipush (-4), 2) := by decide +kernel
theorem dX11_drop_17 : decode cX11_drop 17 = .ok (.if_icmp .ne 6, 3) := by decide +kernel
theorem dX11_drop_20 : decode cX11_drop 20 = .ok (.bipush (-11), 2) := by decide +kernel
theorem dX11_drop_22 : decode cX11_drop 22 = .ok (.ireturn, 1) := by decide +kernel
theorem dX11_drop_23 : decode cX11_drop 23 = .ok (.aload_n 0, 1) := by decide +kernel
theorem dX11_drop_24 : decode cX11_drop 24 = .ok (.getfield 34, 3) := by decide +kernel
theorem dX11_drop_27 : decode cX11_drop 27 = .ok (.iload_n 1, 1) := by decide +kernel
theorem dX11_drop_28 : decode cX11_drop 28 = .ok (.bipush (-4), 2) := by decide +kernel
theorem dX11_drop_30 : decode cX11_drop 30 = .ok (.iastore, 1) := by decide +kernel
theorem dX11_drop_31 : decode cX11_drop 31 = .ok (.aload_n 0, 1) := by decide +kernel
theorem dX11_drop_32 : decode cX11_drop 32 = .ok (.getfield 37, 3) := by decide +kernel
theorem dX11_drop_35 : decode cX11_drop 35 = .ok (.iload_n 1, 1) := by decide +kernel
theorem dX11_drop_36 : decode cX11_drop 36 = .ok (.iaload, 1) := by decide +kernel
theorem dX11_drop_37 : decode cX11_drop 37 = .ok (.ireturn, 1) := by decide +kernel
theorem dX11_item_0 : decode cX11_item 0 = .ok (.iload_n 1, 1) := by decide +kernel
theorem dX11_item_1 : decode cX11_item 1 = .ok (.invokestatic 140, 3) := by decide +kernel
theorem dX11_item_4 : decode cX11_item 4 = .ok (.ifCond .eq 10, 3) := by decide +kernel
theorem dX11_item_7 : decode cX11_item 7 = .ok (.iload_n 2, 1) := by decide +kernel
theorem dX11_item_8 : decode cX11_item 8 = .ok (.invokestatic 143, 3) := by decide +kernel
theorem dX11_item_11 : decode cX11_item 11 = .ok (.ifCond .ne 5, 3) := by decide +kernel
theorem dX11_item_14 : decode cX11_item 14 = .ok (.iconst (-1), 1) := by decide +kernel
theorem dX11_item_15 : decode cX11_item 15 = .ok (.ireturn, 1) := by decide +kernel
theorem dX11_item_16 : decode cX11_item 16 = .ok (.aload_n 0, 1) := by decide +kernel
theorem dX11_item_17 : decode cX11_item 17 = .ok (.iload_n 1, 1) := by decide +kernel
theorem dX11_item_18 : decode cX11_item 18 = .ok (.iload_n 2, 1) := by decide +kernel
theorem dX11_item_19 : decode cX11_item 19 = .ok (.iload_n 3, 1) := by decide +kernel
theorem dX11_item_20 : decode cX11_item 20 = .ok (.iconst 1, 1) := by decide +kernel
theorem dX11_item_21 : decode cX11_item 21 = .ok (.invokevirtual 146, 3) := by decide +kernel
theorem dX11_item_24 : decode cX11_item 24 = .ok (.istore 5, 2) := by decide +kernel
theorem dX11_item_26 : decode cX11_item 26 = .ok (.iload 5, 2) := by decide +kernel
theorem dX11_item_28 : decode cX11_item 28 = .ok (.iconst 1, 1) := by decide +kernel
theorem dX11_item_29 : decode cX11_item 29 = .ok (.if_icmp .ne 37, 3) := by decide +kernel
theorem dX11_item_32 : decode cX11_item 32 = .ok (.aload_n 0, 1) := by decide +kernel
theorem dX11_item_33 : decode cX11_item 33 = .ok (.getfield 40, 3) := by decide +kernel
theorem dX11_item_36 : decode cX11_item 36 = .ok (.bipush 24, 2) := by decide +kernel
theorem dX11_item_38 : decode cX11_item 38 = .ok (.iload_n 1, 1) := by decide +kernel
theorem dX11_item_39 : decode cX11_item 39 = .ok (.imul, 1) := by decide +kernel
theorem dX11_item_40 : decode cX11_item 40 = .ok (.iload_n 3, 1) := by decide +kernel
theorem dX11_item_41 : decode cX11_item 41 = .ok (.iadd, 1) := by decide +kernel
theorem dX11_item_42 : decode cX11_item 42 = .ok (.iload_n 2, 1) := by decide +kernel
theorem dX11_item_43 : decode cX11_item 43 = .ok (.ifCond .ne 9, 3) := by decide +kernel
theorem dX11_item_46 : decode cX11_item 46 = .ok (.iload 4, 2) := by decide +kernel
theorem dX11_item_48 : decode cX11_item 48 = .ok (.i2b, 1) := by decide +kernel
theorem dX11_item_49 : decode cX11_item 49 = .ok (.goto 16, 3) := by decide +kernel
theorem dX11_item_52 : decode cX11_item 52 = .ok (.iload_n 2, 1) := by decide +kernel
theorem dX11_item_53 : decode cX11_item 53 = .ok (.iconst 1, 1) := by decide +kernel
theorem dX11_item_54 : decode cX11_item 54 = .ok (.if_icmp .ne 9, 3) := by decide +kernel
theorem dX11_item_57 : decode cX11_item 57 = .ok (.iload 4, 2) := by decide +kernel
theorem dX11_item_59 : decode cX11_item 59 = .ok (.i2s, 1) := by decide +kernel
theorem dX11_item_60 : decode cX11_item 60 = .ok (.goto 5, 3) := by decide +kernel
theorem dX11_item_63 : decode cX11_item 63 = .ok (.iload 4, 2) := by decide +kernel
theorem dX11_item_65 : decode cX11_item 65 = .ok (.iastore, 1) := by decide +kernel
theorem dX11_item_66 : decode cX11_item 66 = .ok (.iload 5, 2) := by decide +kernel
theorem dX11_item_68 : decode cX11_item 68 = .ok (.ireturn, 1) := by decide +kernel
theorem dX11_copy_0 : decode cX11_copy 0 = .ok (.iload_n 1, 1) := by decide +kernel
theorem dX11_copy_1 : decode cX11_copy 1 = .ok (.invokestatic 140, 3) := by decide +kernel
theorem dX11_copy_4 : decode cX11_copy 4 = .ok (.ifCond .eq 10, 3) := by decide +kernel
theorem dX11_copy_7 : decode cX11_copy 7 = .ok (.iload_n 3, 1) := by decide +kernel
theorem dX11_copy_8 : decode cX11_copy 8 = .ok (.invokestatic 140, 3) := by decide +kernel
theorem dX11_copy_11 : decode cX11_copy 11 = .ok (.ifCond .ne 5, 3) := by decide +kernel
theorem dX11_copy_14 : decode cX11_copy 14 = .ok (.iconst (-1), 1) := by decide +kernel
theorem dX11_copy_15 : decode cX11_copy 15 = .ok (.ireturn, 1) := by decide +kernel
theorem dX11_copy_16 : decode cX11_copy 16 = .ok (.aload_n 0, 1) := by decide +kernel
theorem dX11_copy_17 : decode cX11_copy 17 = .ok (.getfield 34, 3) := by decide +kernel
theorem dX11_copy_20 : decode cX11_copy 20 = .ok (.iload_n 1, 1) := by decide +kernel
theorem dX11_copy_21 : decode cX11_copy 21 = .ok (.iaload, 1) := by decide +kernel
theorem dX11_copy_22 : decode cX11_copy 22 = .ok (.bipush (-4), 2) := by decide +kernel
theorem dX11_copy_24 : decode cX11_copy 24 = .ok (.if_icmp .eq 14, 3) := by decide +kernel
theorem dX11_copy_27 : decode cX11_copy 27 = .ok (.aload_n 0, 1) := by decide +kernel
theorem dX11_copy_28 : decode cX11_copy 28 = .ok (.getfield 34, 3) := by decide +kernel
theorem dX11_copy_31 : decode cX11_copy 31 = .ok (.iload_n 3, 1) := by decide +kernel
theorem dX11_copy_32 : decode cX11_copy 32 = .ok (.iaload, 1) := by decide +kernel
theorem dX11_copy_33 : decode cX11_copy 33 = .ok (.bipush (-4), 2) := by decide +kernel
theorem dX11_copy_35 : decode cX11_copy 35 = .ok (.if_icmp .ne 6, 3) := by decide +kernel
theorem dX11_copy_38 : decode cX11_copy 38 = .ok (.bipush (-11), 2) := by decide +kernel
theorem dX11_copy_40 : decode cX11_copy 40 = .ok (.ireturn, 1) := by decide +kernel
theorem dX11_copy_41 : decode cX11_copy 41 = .ok (.aload_n 0, 1) := by decide +kernel
theorem dX11_copy_42 : decode cX11_copy 42 = .ok (.iload_n 1, 1) := by decide +kernel
theorem dX11_copy_43 : decode cX11_copy 43 = .ok (.aload_n 0, 1) := by decide +kernel
theorem dX11_copy_44 : decode cX11_copy 44 = .ok (.getfield 34, 3) := by decide +kernel
theorem dX11_copy_47 : decode cX11_copy 47 = .ok (.iload_n 3, 1) := by decide +kernel
theorem dX11_copy_48 : decode cX11_copy 48 = .ok (.iaload, 1) := by decide +kernel
theorem dX11_copy_49 : decode cX11_copy 49 = .ok (.iload_n 2, 1) := by decide +kernel
theorem dX11_copy_50 : decode cX11_copy 50 = .ok (.iload 5, 2) := by decide +kernel
theorem dX11_copy_52 : decode cX11_copy 52 = .ok (.invokevirtual 146, 3) := by decide +kernel
theorem dX11_copy_55 : decode cX11_copy 55 = .ok (.istore 6, 2) := by decide +kernel
theorem dX11_copy_57 : decode cX11_copy 57 = .ok (.iload 6, 2) := by decide +kernel
theorem dX11_copy_59 : decode cX11_copy 59 = .ok (.iconst 1, 1) := by decide +kernel
theorem dX11_copy_60 : decode cX11_copy 60 = .ok (.if_icmp .ne 21, 3) := by decide +kernel
theorem dX11_copy_63 : decode cX11_copy 63 = .ok (.aload_n 0, 1) := by decide +kernel
theorem dX11_copy_64 : decode cX11_copy 64 = .ok (.iload_n 3, 1) := by decide +kernel
theorem dX11_copy_65 : decode cX11_copy 65 = .ok (.aload_n 0, 1) := by decide +kernel
theorem dX11_copy_66 : decode cX11_copy 66 = .ok (.getfield 34, 3) := by decide +kernel
theorem dX11_copy_69 : decode cX11_copy 69 = .ok (.iload_n 3, 1) := by decide +kernel
theorem dX11_copy_70 : decode cX11_copy 70 = .ok (.iaload, 1) := by decide +kernel
theorem dX11_copy_71 : decode cX11_copy 71 = .ok (.iload 4, 2) := by decide +kernel
theorem dX11_copy_73 : decode cX11_copy 73 = .ok (.iload 5, 2) := by decide +kernel
theorem dX11_copy_75 : decode cX11_copy 75 = .ok (.invokevirtual 146, 3) := by decide +kernel
theorem dX11_copy_78 : decode cX11_copy 78 = .ok (.goto 5, 3) := by decide +kernel
theorem dX11_copy_81 : decode cX11_copy 81 = .ok (.iload 6, 2) := by decide +kernel
theorem dX11_copy_83 : decode cX11_copy 83 = .ok (.istore 6, 2) := by decide +kernel
theorem dX11_copy_85 : decode cX11_copy 85 = .ok (.iload 6, 2) := by decide +kernel
theorem dX11_copy_87 : decode cX11_copy 87 = .ok (.iconst 1, 1) := by decide +kernel
theorem dX11_copy_88 : decode cX11_copy 88 = .ok (.if_icmp .eq 6, 3) := by decide +kernel
theorem dX11_copy_91 : decode cX11_copy 91 = .ok (.iload 6, 2) := by decide +kernel
theorem dX11_copy_93 : decode cX11_copy 93 = .ok (.ireturn, 1) := by decide +kernel
theorem dX11_copy_94 : decode cX11_copy 94 = .ok (.iconst 0, 1) := by decide +kernel
theorem dX11_copy_95 : decode cX11_copy 95 = .ok (.istore 7, 2) := by decide +kernel
theorem dX11_copy_97 : decode cX11_copy 97 = .ok (.iload 7, 2) := by decide +kernel
theorem dX11_copy_99 : decode cX11_copy 99 = .ok (.iload 5, 2) := by decide +kernel
theorem dX11_copy_101 : decode cX11_copy 101 = .ok (.if_icmp .ge 25, 3) := by decide +kernel
theorem dX11_copy_104 : decode cX11_copy 104 = .ok (.aload_n 0, 1) := by decide +kernel
theorem dX11_copy_105 : decode cX11_copy 105 = .ok (.getfield 43, 3) := by decide +kernel
theorem dX11_copy_108 : decode cX11_copy 108 = .ok (.iload 7, 2) := by decide +kernel
theorem dX11_copy_110 : decode cX11_copy 110 = .ok (.aload_n 0, 1) := by decide +kernel
theorem dX11_copy_111 : decode cX11_copy 111 = .ok (.iload_n 1, 1) := by decide +kernel
theorem dX11_copy_112 : decode cX11_copy 112 = .ok (.iload_n 2, 1) := by decide +kernel
theorem dX11_copy_113 : decode cX11_copy 113 = .ok (.iload 7, 2) := by decide +kernel
theorem dX11_copy_115 : decode cX11_copy 115 = .ok (.iadd, 1) := by decide +kernel
theorem dX11_copy_116 : decode cX11_copy 116 = .ok (.invokevirtual 150, 3) := by decide +kernel
theorem dX11_copy_119 : decode cX11_copy 119 = .ok (.iastore, 1) := by decide +kernel
theorem dX11_copy_120 : decode cX11_copy 120 = .ok (.iinc 7 1, 3) := by decide +kernel
theorem dX11_copy_123 : decode cX11_copy 123 = .ok (.goto (-26), 3) := by decide +kernel
theorem dX11_copy_126 : decode cX11_copy 126 = .ok (.iconst 0, 1) := by decide +kernel
theorem dX11_copy_127 : decode cX11_copy 127 = .ok (.istore 7, 2) := by decide +kernel
theorem dX11_copy_129 : decode cX11_copy 129 = .ok (.iload 7, 2) := by decide +kernel
theorem dX11_copy_131 : decode cX11_copy 131 = .ok (.iload 5, 2) := by decide +kernel
theorem dX11_copy_133 : decode cX11_copy 133 = .ok (.if_icmp .ge 31, 3) := by decide +kernel
theorem dX11_copy_136 : decode cX11_copy 136 = .ok (.aload_n 0, 1) := by decide +kernel
theorem dX11_copy_137 : decode cX11_copy 137 = .ok (.getfield 40, 3) := by decide +kernel
theorem dX11_copy_140 : decode cX11_copy 140 = .ok (.bipush 24, 2) := by decide +kernel
theorem dX11_copy_142 : decode cX11_copy 142 = .ok (.iload_n 3, 1) := by decide +kernel
theorem dX11_copy_143 : decode cX11_copy 143 = .ok (.imul, 1) := by decide +kernel
theorem dX11_copy_144 : decode cX11_copy 144 = .ok (.iload 4, 2) := by decide +kernel
theorem dX11_copy_146 : decode cX11_copy 146 = .ok (.iadd, 1) := by decide +kernel
theorem dX11_copy_147 : decode cX11_copy 147 = .ok (.iload 7, 2) := by decide +kernel
theorem dX11_copy_149 : decode cX11_copy 149 = .ok (.iadd, 1) := by decide +kernel
theorem dX11_copy_150 : decode cX11_copy 150 = .ok (.aload_n 0, 1) := by decide +kernel
theorem dX11_copy_151 : decode cX11_copy 151 = .ok (.getfield 43, 3) := by decide +kernel
theorem dX11_copy_154 : decode cX11_copy 154 = .ok (.iload 7, 2) := by decide +kernel
theorem dX11_copy_156 : decode cX11_copy 156 = .ok (.iaload, 1) := by decide +kernel
theorem dX11_copy_157 : decode cX11_copy 157 = .ok (.iastore, 1) := by decide +kernel
theorem dX11_copy_158 : decode cX11_copy 158 = .ok (.iinc 7 1, 3) := by decide +kernel
theorem dX11_copy_161 : decode cX11_copy 161 = .ok (.goto (-32), 3) := by decide +kernel
theorem dX11_copy_164 : decode cX11_copy 164 = .ok (.iload 5, 2) := by decide +kernel
theorem dX11_copy_166 : decode cX11_copy 166 = .ok (.ireturn, 1) := by decide +kernel
theorem dX11_comes_0 : decode cX11_comes 0 = .ok (.iload_n 1, 1) := by decide +kernel
theorem dX11_comes_1 : decode cX11_comes 1 = .ok (.invokestatic 140, 3) := by decide +kernel
theorem dX11_comes_4 : decode cX11_comes 4 = .ok (.ifCond .eq 23, 3) := by decide +kernel
theorem dX11_comes_7 : decode cX11_comes 7 = .ok (.iload_n 2, 1) := by decide +kernel
theorem dX11_comes_8 : decode cX11_comes 8 = .ok (.invokestatic 143, 3) := by decide +kernel
theorem dX11_comes_11 : decode cX11_comes 11 = .ok (.ifCond .eq 16, 3) := by decide +kernel
theorem dX11_comes_14 : decode cX11_comes 14 = .ok (.iload 4, 2) := by decide +kernel
theorem dX11_comes_16 : decode cX11_comes 16 = .ok (.i2l, 1) := by decide +kernel
theorem dX11_comes_17 : decode cX11_comes 17 = .ok (.lconst 0, 1) := by decide +kernel
theorem dX11_comes_18 : decode cX11_comes 18 = .ok (.ldc2_w 153, 3) := by decide +kernel
theorem dX11_comes_21 : decode cX11_comes 21 = .ok (.invokestatic 70, 3) := by decide +kernel
theorem dX11_comes_24 : decode cX11_comes 24 = .ok (.ifCond .ne 5, 3) := by decide +kernel
theorem dX11_comes_27 : decode cX11_comes 27 = .ok (.iconst (-1), 1) := by decide +kernel
theorem dX11_comes_28 : decode cX11_comes 28 = .ok (.ireturn, 1) := by decide +kernel
theorem dX11_comes_29 : decode cX11_comes 29 = .ok (.aload_n 0, 1) := by decide +kernel
theorem dX11_comes_30 : decode cX11_comes 30 = .ok (.iload_n 1, 1) := by decide +kernel
theorem dX11_comes_31 : decode cX11_comes 31 = .ok (.iload_n 2, 1) := by decide +kernel
theorem dX11_comes_32 : decode cX11_comes 32 = .ok (.iload_n 3, 1) := by decide +kernel
theorem dX11_comes_33 : decode cX11_comes 33 = .ok (.iconst 2, 1) := by decide +kernel
theorem dX11_comes_34 : decode cX11_comes 34 = .ok (.iload 4, 2) := by decide +kernel
theorem dX11_comes_36 : decode cX11_comes 36 = .ok (.imul, 1) := by decide +kernel
theorem dX11_comes_37 : decode cX11_comes 37 = .ok (.invokevirtual 146, 3) := by decide +kernel
theorem dX11_comes_40 : decode cX11_comes 40 = .ok (.istore 5, 2) := by decide +kernel
theorem dX11_comes_42 : decode cX11_comes 42 = .ok (.iload 5, 2) := by decide +kernel
theorem dX11_comes_44 : decode cX11_comes 44 = .ok (.iconst 1, 1) := by decide +kernel
theorem dX11_comes_45 : decode cX11_comes 45 = .ok (.if_icmp .eq 6, 3) := by decide +kernel
theorem dX11_comes_48 : decode cX11_comes 48 = .ok (.iload 5, 2) := by decide +kernel
theorem dX11_comes_50 : decode cX11_comes 50 = .ok (.ireturn, 1) := by decide +kernel
theorem dX11_comes_51 : decode cX11_comes 51 = .ok (.iconst 0, 1) := by decide +kernel
theorem dX11_comes_52 : decode cX11_comes 52 = .ok (.istore 6, 2) := by decide +kernel
theorem dX11_comes_54 : decode cX11_comes 54 = .ok (.iload 6, 2) := by decide +kernel
theorem dX11_comes_56 : decode cX11_comes 56 = .ok (.iload 4, 2) := by decide +kernel
theorem dX11_comes_58 : decode cX11_comes 58 = .ok (.if_icmp .ge 48, 3) := by decide +kernel
theorem dX11_comes_61 : decode cX11_comes 61 = .ok (.aload_n 0, 1) := by decide +kernel
theorem dX11_comes_62 : decode cX11_comes 62 = .ok (.iload_n 1, 1) := by decide +kernel
theorem dX11_comes_63 : decode cX11_comes 63 = .ok (.iload_n 3, 1) := by decide +kernel
theorem dX11_comes_64 : decode cX11_comes 64 = .ok (.iconst 2, 1) := by decide +kernel
theorem dX11_comes_65 : decode cX11_comes 65 = .ok (.iload 6, 2) := by decide +kernel
theorem dX11_comes_67 : decode cX11_comes 67 = .ok (.imul, 1) := by decide +kernel
theorem dX11_comes_68 : decode cX11_comes 68 = .ok (.iadd, 1) := by decide +kernel
theorem dX11_comes_69 : decode cX11_comes 69 = .ok (.invokevirtual 150, 3) := by decide +kernel
theorem dX11_comes_72 : decode cX11_comes 72 = .ok (.invokestatic 84, 3) := by decide +kernel
theorem dX11_comes_75 : decode cX11_comes 75 = .ok (.ifCond .eq 22, 3) := by decide +kernel
theorem dX11_comes_78 : decode cX11_comes 78 = .ok (.aload_n 0, 1) := by decide +kernel
theorem dX11_comes_79 : decode cX11_comes 79 = .ok (.iload_n 1, 1) := by decide +kernel
theorem dX11_comes_80 : decode cX11_comes 80 = .ok (.iload_n 3, 1) := by decide +kernel
theorem dX11_comes_81 : decode cX11_comes 81 = .ok (.iconst 2, 1) := by decide +kernel
theorem dX11_comes_82 : decode cX11_comes 82 = .ok (.iload 6, 2) := by decide +kernel
theorem dX11_comes_84 : decode cX11_comes 84 = .ok (.imul, 1) := by decide +kernel
theorem dX11_comes_85 : decode cX11_comes 85 = .ok (.iadd, 1) := by decide +kernel
theorem dX11_comes_86 : decode cX11_comes 86 = .ok (.iconst 1, 1) := by decide +kernel
theorem dX11_comes_87 : decode cX11_comes 87 = .ok (.iadd, 1) := by decide +kernel
theorem dX11_comes_88 : decode cX11_comes 88 = .ok (.invokevirtual 150, 3) := by decide +kernel
theorem dX11_comes_91 : decode cX11_comes 91 = .ok (.invokestatic 102, 3) := by decide +kernel
theorem dX11_comes_94 : decode cX11_comes 94 = .ok (.ifCond .ne 6, 3) := by decide +kernel
theorem dX11_comes_97 : decode cX11_comes 97 = .ok (.bipush (-2), 2) := by decide +kernel
theorem dX11_comes_99 : decode cX11_comes 99 = .ok (.ireturn, 1) := by decide +kernel
theorem dX11_comes_100 : decode cX11_comes 100 = .ok (.iinc 6 1, 3) := by decide +kernel
theorem dX11_comes_103 : decode cX11_comes 103 = .ok (.goto (-49), 3) := by decide +kernel
theorem dX11_comes_106 : decode cX11_comes 106 = .ok (.aload_n 0, 1) := by decide +kernel
theorem dX11_comes_107 : decode cX11_comes 107 = .ok (.getfield 96, 3) := by decide +kernel
theorem dX11_comes_110 : decode cX11_comes 110 = .ok (.iload 4, 2) := by decide +kernel
theorem dX11_comes_112 : decode cX11_comes 112 = .ok (.iadd, 1) := by decide +kernel
theorem dX11_comes_113 : decode cX11_comes 113 = .ok (.sipush 1000, 3) := by decide +kernel
theorem dX11_comes_116 : decode cX11_comes 116 = .ok (.if_icmp .le 6, 3) := by decide +kernel
theorem dX11_comes_119 : decode cX11_comes 119 = .ok (.bipush (-3), 2) := by decide +kernel
theorem dX11_comes_121 : decode cX11_comes 121 = .ok (.ireturn, 1) := by decide +kernel
theorem dX11_comes_122 : decode cX11_comes 122 = .ok (.aload_n 0, 1) := by decide +kernel
theorem dX11_comes_123 : decode cX11_comes 123 = .ok (.getfield 96, 3) := by decide +kernel
theorem dX11_comes_126 : decode cX11_comes 126 = .ok (.istore 6, 2) := by decide +kernel
theorem dX11_comes_128 : decode cX11_comes 128 = .ok (.iconst 0, 1) := by decide +kernel
theorem dX11_comes_129 : decode cX11_comes 129 = .ok (.istore 7, 2) := by decide +kernel
theorem dX11_comes_131 : decode cX11_comes 131 = .ok (.iload 7, 2) := by decide +kernel
theorem dX11_comes_133 : decode cX11_comes 133 = .ok (.iload 4, 2) := by decide +kernel
theorem dX11_comes_135 : decode cX11_comes 135 = .ok (.if_icmp .ge 38, 3) := by decide +kernel
theorem dX11_comes_138 : decode cX11_comes 138 = .ok (.aload_n 0, 1) := by decide +kernel
theorem dX11_comes_139 : decode cX11_comes 139 = .ok (.aload_n 0, 1) := by decide +kernel
theorem dX11_comes_140 : decode cX11_comes 140 = .ok (.iload_n 1, 1) := by decide +kernel
theorem dX11_comes_141 : decode cX11_comes 141 = .ok (.iload_n 3, 1) := by decide +kernel
theorem dX11_comes_142 : decode cX11_comes 142 = .ok (.iconst 2, 1) := by decide +kernel
theorem dX11_comes_143 : decode cX11_comes 143 = .ok (.iload 7, 2) := by decide +kernel
theorem dX11_comes_145 : decode cX11_comes 145 = .ok (.imul, 1) := by decide +kernel
theorem dX11_comes_146 : decode cX11_comes 146 = .ok (.iadd, 1) := by decide +kernel
theorem dX11_comes_147 : decode cX11_comes 147 = .ok (.invokevirtual 150, 3) := by decide +kernel
theorem dX11_comes_150 : decode cX11_comes 150 = .ok (.aload_n 0, 1) := by decide +kernel
theorem dX11_comes_151 : decode cX11_comes 151 = .ok (.iload_n 1, 1) := by decide +kernel
theorem dX11_comes_152 : decode cX11_comes 152 = .ok (.iload_n 3, 1) := by decide +kernel
theorem dX11_comes_153 : decode cX11_comes 153 = .ok (.iconst 2, 1) := by decide +kernel
theorem dX11_comes_154 : decode cX11_comes 154 = .ok (.iload 7, 2) := by decide +kernel
theorem dX11_comes_156 : decode cX11_comes 156 = .ok (.imul, 1) := by decide +kernel
theorem dX11_comes_157 : decode cX11_comes 157 = .ok (.iadd, 1) := by decide +kernel
theorem dX11_comes_158 : decode cX11_comes 158 = .ok (.iconst 1, 1) := by decide +kernel
theorem dX11_comes_159 : decode cX11_comes 159 = .ok (.iadd, 1) := by decide +kernel
theorem dX11_comes_160 : decode cX11_comes 160 = .ok (.invokevirtual 150, 3) := by decide +kernel
theorem dX11_comes_163 : decode cX11_comes 163 = .ok (.invokevirtual 105, 3) := by decide +kernel
theorem dX11_comes_166 : decode cX11_comes 166 = .ok (.pop, 1) := by decide +kernel
theorem dX11_comes_167 : decode cX11_comes 167 = .ok (.iinc 7 1, 3) := by decide +kernel
theorem dX11_comes_170 : decode cX11_comes 170 = .ok (.goto (-39), 3) := by decide +kernel
theorem dX11_comes_173 : decode cX11_comes 173 = .ok (.iload 4, 2) := by decide +kernel
theorem dX11_comes_175 : decode cX11_comes 175 = .ok (.ifCond .ne 8, 3) := by decide +kernel
theorem dX11_comes_178 : decode cX11_comes 178 = .ok (.bipush (-4), 2) := by decide +kernel
theorem dX11_comes_180 : decode cX11_comes 180 = .ok (.goto 5, 3) := by decide +kernel
theorem dX11_comes_183 : decode cX11_comes 183 = .ok (.iload 6, 2) := by decide +kernel
theorem dX11_comes_185 : decode cX11_comes 185 = .ok (.ireturn, 1) := by decide +kernel
theorem dX11_type_0 : decode cX11_type 0 = .ok (.iload_n 3, 1) := by decide +kernel
theorem dX11_type_1 : decode cX11_type 1 = .ok (.i2l, 1) := by decide +kernel
theorem dX11_type_2 : decode cX11_type 2 = .ok (.lconst 1, 1) := by decide +kernel
theorem dX11_type_3 : decode cX11_type 3 = .ok (.ldc2_w 155, 3) := by decide +kernel
theorem dX11_type_6 : decode cX11_type 6 = .ok (.invokestatic 70, 3) := by decide +kernel
theorem dX11_type_9 : decode cX11_type 9 = .ok (.ifCond .ne 5, 3) := by decide +kernel
theorem dX11_type_12 : decode cX11_type 12 = .ok (.iconst (-1), 1) := by decide +kernel
theorem dX11_type_13 : decode cX11_type 13 = .ok (.ireturn, 1) := by decide +kernel
theorem dX11_type_14 : decode cX11_type 14 = .ok (.iconst 0, 1) := by decide +kernel
theorem dX11_type_15 : decode cX11_type 15 = .ok (.istore 4, 2) := by decide +kernel
theorem dX11_type_17 : decode cX11_type 17 = .ok (.iload 4, 2) := by decide +kernel
theorem dX11_type_19 : decode cX11_type 19 = .ok (.iload_n 3, 1) := by decide +kernel
theorem dX11_type_20 : decode cX11_type 20 = .ok (.if_icmp .ge 34, 3) := by decide +kernel
theorem dX11_type_23 : decode cX11_type 23 = .ok (.lload_n 1, 1) := by decide +kernel
theorem dX11_type_24 : decode cX11_type 24 = .ok (.bipush 8, 2) := by decide +kernel
theorem dX11_type_26 : decode cX11_type 26 = .ok (.iload 4, 2) := by decide +kernel
theorem dX11_type_28 : decode cX11_type 28 = .ok (.imul, 1) := by decide +kernel
theorem dX11_type_29 : decode cX11_type 29 = .ok (.lshr, 1) := by decide +kernel
theorem dX11_type_30 : decode cX11_type 30 = .ok (.ldc2_w 157, 3) := by decide +kernel
theorem dX11_type_33 : decode cX11_type 33 = .ok (.land, 1) := by decide +kernel
theorem dX11_type_34 : decode cX11_type 34 = .ok (.ldc2_w 159, 3) := by decide +kernel
theorem dX11_type_37 : decode cX11_type 37 = .ok (.ldc2_w 161, 3) := by decide +kernel
theorem dX11_type_40 : decode cX11_type 40 = .ok (.invokestatic 70, 3) := by decide +kernel
theorem dX11_type_43 : decode cX11_type 43 = .ok (.ifCond .ne 5, 3) := by decide +kernel
theorem dX11_type_46 : decode cX11_type 46 = .ok (.iconst (-1), 1) := by decide +kernel
theorem dX11_type_47 : decode cX11_type 47 = .ok (.ireturn, 1) := by decide +kernel
theorem dX11_type_48 : decode cX11_type 48 = .ok (.iinc 4 1, 3) := by decide +kernel
theorem dX11_type_51 : decode cX11_type 51 = .ok (.goto (-34), 3) := by decide +kernel
theorem dX11_type_54 : decode cX11_type 54 = .ok (.aload_n 0, 1) := by decide +kernel
theorem dX11_type_55 : decode cX11_type 55 = .ok (.getfield 163, 3) := by decide +kernel
theorem dX11_type_58 : decode cX11_type 58 = .ok (.iload_n 3, 1) := by decide +kernel
theorem dX11_type_59 : decode cX11_type 59 = .ok (.iadd, 1) := by decide +kernel
theorem dX11_type_60 : decode cX11_type 60 = .ok (.bipush 40, 2) := by decide +kernel
theorem dX11_type_62 : decode cX11_type 62 = .ok (.if_icmp .le 6, 3) := by decide +kernel
theorem dX11_type_65 : decode cX11_type 65 = .ok (.bipush (-3), 2) := by decide +kernel
theorem dX11_type_67 : decode cX11_type 67 = .ok (.ireturn, 1) := by decide +kernel
theorem dX11_type_68 : decode cX11_type 68 = .ok (.iload_n 3, 1) := by decide +kernel
theorem dX11_type_69 : decode cX11_type 69 = .ok (.iconst 1, 1) := by decide +kernel
theorem dX11_type_70 : decode cX11_type 70 = .ok (.isub, 1) := by decide +kernel
theorem dX11_type_71 : decode cX11_type 71 = .ok (.istore 4, 2) := by decide +kernel
theorem dX11_type_73 : decode cX11_type 73 = .ok (.iload 4, 2) := by decide +kernel
theorem dX11_type_75 : decode cX11_type 75 = .ok (.ifCond .lt 40, 3) := by decide +kernel
theorem dX11_type_78 : decode cX11_type 78 = .ok (.aload_n 0, 1) := by decide +kernel
theorem dX11_type_79 : decode cX11_type 79 = .ok (.getfield 46, 3) := by decide +kernel
theorem dX11_type_82 : decode cX11_type 82 = .ok (.aload_n 0, 1) := by decide +kernel
theorem dX11_type_83 : decode cX11_type 83 = .ok (.getfield 163, 3) := by decide +kernel
theorem dX11_type_86 : decode cX11_type 86 = .ok (.lload_n 1, 1) := by decide +kernel
theorem dX11_type_87 : decode cX11_type 87 = .ok (.bipush 8, 2) := by decide +kernel
theorem dX11_type_89 : decode cX11_type 89 = .ok (.iload 4, 2) := by decide +kernel
theorem dX11_type_91 : decode cX11_type 91 = .ok (.imul, 1) := by decide +kernel
theorem dX11_type_92 : decode cX11_type 92 = .ok (.lshr, 1) := by decide +kernel
theorem dX11_type_93 : decode cX11_type 93 = .ok (.ldc2_w 157, 3) := by decide +kernel
theorem dX11_type_96 : decode cX11_type 96 = .ok (.land, 1) := by decide +kernel
theorem dX11_type_97 : decode cX11_type 97 = .ok (.l2i, 1) := by decide +kernel
theorem dX11_type_98 : decode cX11_type 98 = .ok (.iastore, 1) := by decide +kernel
theorem dX11_type_99 : decode cX11_type 99 = .ok (.aload_n 0, 1) := by decide +kernel
theorem dX11_type_100 : decode cX11_type 100 = .ok (.dup, 1) := by decide +kernel
theorem dX11_type_101 : decode cX11_type 101 = .ok (.getfield 163, 3) := by decide +kernel
theorem dX11_type_104 : decode cX11_type 104 = .ok (.iconst 1, 1) := by decide +kernel
theorem dX11_type_105 : decode cX11_type 105 = .ok (.iadd, 1) := by decide +kernel
theorem dX11_type_106 : decode cX11_type 106 = .ok (.putfield 163, 3) := by decide +kernel
theorem dX11_type_109 : decode cX11_type 109 = .ok (.iinc 4 (-1), 3) := by decide +kernel
theorem dX11_type_112 : decode cX11_type 112 = .ok (.goto (-39), 3) := by decide +kernel
theorem dX11_type_115 : decode cX11_type 115 = .ok (.aload_n 0, 1) := by decide +kernel
theorem dX11_type_116 : decode cX11_type 116 = .ok (.getfield 163, 3) := by decide +kernel
theorem dX11_type_119 : decode cX11_type 119 = .ok (.ireturn, 1) := by decide +kernel
theorem dX11_next0_0 : decode cX11_next0 0 = .ok (.aload_n 0, 1) := by decide +kernel
theorem dX11_next0_1 : decode cX11_next0 1 = .ok (.getfield 166, 3) := by decide +kernel
theorem dX11_next0_4 : decode cX11_next0 4 = .ok (.aload_n 0, 1) := by decide +kernel
theorem dX11_next0_5 : decode cX11_next0 5 = .ok (.getfield 163, 3) := by decide +kernel
theorem dX11_next0_8 : decode cX11_next0 8 = .ok (.if_icmp .ge 30, 3) := by decide +kernel
theorem dX11_next0_11 : decode cX11_next0 11 = .ok (.aload_n 0, 1) := by decide +kernel
theorem dX11_next0_12 : decode cX11_next0 12 = .ok (.getfield 46, 3) := by decide +kernel
theorem dX11_next0_15 : decode cX11_next0 15 = .ok (.aload_n 0, 1) := by decide +kernel
theorem dX11_next0_16 : decode cX11_next0 16 = .ok (.getfield 166, 3) := by decide +kernel
theorem dX11_next0_19 : decode cX11_next0 19 = .ok (.iaload, 1) := by decide +kernel
theorem dX11_next0_20 : decode cX11_next0 20 = .ok (.bipush 32, 2) := by decide +kernel
theorem dX11_next0_22 : decode cX11_next0 22 = .ok (.if_icmp .ne 16, 3) := by decide +kernel
theorem dX11_next0_25 : decode cX11_next0 25 = .ok (.aload_n 0, 1) := by decide +kernel
theorem dX11_next0_26 : decode cX11_next0 26 = .ok (.dup, 1) := by decide +kernel
theorem dX11_next0_27 : decode cX11_next0 27 = .ok (.getfield 166, 3) := by decide +kernel
theorem dX11_next0_30 : decode cX11_next0 30 = .ok (.iconst 1, 1) := by decide +kernel
theorem dX11_next0_31 : decode cX11_next0 31 = .ok (.iadd, 1) := by decide +kernel
theorem dX11_next0_32 : decode cX11_next0 32 = .ok (.putfield 166, 3) := by decide +kernel
theorem dX11_next0_35 : decode cX11_next0 35 = .ok (.goto (-35), 3) := by decide +kernel
theorem dX11_next0_38 : decode cX11_next0 38 = .ok (.aload_n 0, 1) := by decide +kernel
theorem dX11_next0_39 : decode cX11_next0 39 = .ok (.getfield 166, 3) := by decide +kernel
theorem dX11_next0_42 : decode cX11_next0 42 = .ok (.aload_n 0, 1) := by decide +kernel
theorem dX11_next0_43 : decode cX11_next0 43 = .ok (.getfield 163, 3) := by decide +kernel
theorem dX11_next0_46 : decode cX11_next0 46 = .ok (.if_icmp .ge 15, 3) := by decide +kernel
theorem dX11_next0_49 : decode cX11_next0 49 = .ok (.aload_n 0, 1) := by decide +kernel
theorem dX11_next0_50 : decode cX11_next0 50 = .ok (.getfield 46, 3) := by decide +kernel
theorem dX11_next0_53 : decode cX11_next0 53 = .ok (.aload_n 0, 1) := by decide +kernel
theorem dX11_next0_54 : decode cX11_next0 54 = .ok (.getfield 166, 3) := by decide +kernel
theorem dX11_next0_57 : decode cX11_next0 57 = .ok (.iaload, 1) := by decide +kernel
theorem dX11_next0_58 : decode cX11_next0 58 = .ok (.goto 5, 3) := by decide +kernel
theorem dX11_next0_61 : decode cX11_next0 61 = .ok (.bipush (-4), 2) := by decide +kernel
theorem dX11_next0_63 : decode cX11_next0 63 = .ok (.ireturn, 1) := by decide +kernel
theorem dX11_isDigit_0 : decode cX11_isDigit 0 = .ok (.iload_n 0, 1) := by decide +kernel
theorem dX11_isDigit_1 : decode cX11_isDigit 1 = .ok (.i2l, 1) := by decide +kernel
theorem dX11_isDigit_2 : decode cX11_isDigit 2 = .ok (.ldc2_w 169, 3) := by decide +kernel
theorem dX11_isDigit_5 : decode cX11_isDigit 5 = .ok (.ldc2_w 171, 3) := by decide +kernel
theorem dX11_isDigit_8 : decode cX11_isDigit 8 = .ok (.invokestatic 70, 3) := by decide +kernel
theorem dX11_isDigit_11 : decode cX11_isDigit 11 = .ok (.ireturn, 1) := by decide +kernel
theorem dX11_number_0 : decode cX11_number 0 = .ok (.aload_n 0, 1) := by decide +kernel
theorem dX11_number_1 : decode cX11_number 1 = .ok (.invokevirtual 173, 3) := by decide +kernel
theorem dX11_number_4 : decode cX11_number 4 = .ok (.istore_n 1, 1) := by decide +kernel
theorem dX11_number_5 : decode cX11_number 5 = .ok (.iload_n 1, 1) := by decide +kernel
theorem dX11_number_6 : decode cX11_number 6 = .ok (.invokestatic 176, 3) := by decide +kernel
theorem dX11_number_9 : decode cX11_number 9 = .ok (.ifCond .ne 5, 3) := by decide +kernel
theorem dX11_number_12 : decode cX11_number 12 = .ok (.iconst 1, 1) := by decide +kernel
theorem dX11_number_13 : decode cX11_number 13 = .ok (.ireturn, 1) := by decide +kernel
theorem dX11_number_14 : decode cX11_number 14 = .ok (.aload_n 0, 1) := by decide +kernel
theorem dX11_number_15 : decode cX11_number 15 = .ok (.getfield 166, 3) := by decide +kernel
theorem dX11_number_18 : decode cX11_number 18 = .ok (.istore_n 2, 1) := by decide +kernel
theorem dX11_number_19 : decode cX11_number 19 = .ok (.iconst 0, 1) := by decide +kernel
theorem dX11_number_20 : decode cX11_number 20 = .ok (.istore_n 3, 1) := by decide +kernel
theorem dX11_number_21 : decode cX11_number 21 = .ok (.iload_n 2, 1) := by decide +kernel
theorem dX11_number_22 : decode cX11_number 22 = .ok (.aload_n 0, 1) := by decide +kernel
theorem dX11_number_23 : decode cX11_number 23 = .ok (.getfield 163, 3) := by decide +kernel
theorem dX11_number_26 : decode cX11_number 26 = .ok (.if_icmp .ge 46, 3) := by decide +kernel
theorem dX11_number_29 : decode cX11_number 29 = .ok (.aload_n 0, 1) := by decide +kernel
theorem dX11_number_30 : decode cX11_number 30 = .ok (.getfield 46, 3) := by decide +kernel
theorem dX11_number_33 : decode cX11_number 33 = .ok (.iload_n 2, 1) := by decide +kernel
theorem dX11_number_34 : decode cX11_number 34 = .ok (.iaload, 1) := by decide +kernel
theorem dX11_number_35 : decode cX11_number 35 = .ok (.invokestatic 176, 3) := by decide +kernel
theorem dX11_number_38 : decode cX11_number 38 = .ok (.ifCond .eq 34, 3) := by decide +kernel
theorem dX11_number_41 : decode cX11_number 41 = .ok (.iload_n 3, 1) := by decide +kernel
theorem dX11_number_42 : decode cX11_number 42 = .ok (.bipush 99, 2) := by decide +kernel
theorem dX11_number_44 : decode cX11_number 44 = .ok (.if_icmp .le 7, 3) := by decide +kernel
theorem dX11_number_47 : decode cX11_number 47 = .ok (.iload_n 3, 1) := by decide +kernel
theorem dX11_number_48 : decode cX11_number 48 = .ok (.goto 17, 3) := by decide +kernel
theorem dX11_number_51 : decode cX11_number 51 = .ok (.bipush 10, 2) := by decide +kernel
theorem dX11_number_53 : decode cX11_number 53 = .ok (.iload_n 3, 1) := by decide +kernel
theorem dX11_number_54 : decode cX11_number 54 = .ok (.imul, 1) := by decide +kernel
theorem dX11_number_55 : decode cX11_number 55 = .ok (.aload_n 0, 1) := by decide +kernel
theorem dX11_number_56 : decode cX11_number 56 = .ok (.getfield 46, 3) := by decide +kernel
theorem dX11_number_59 : decode cX11_number 59 = .ok (.iload_n 2, 1) := by decide +kernel
theorem dX11_number_60 : decode cX11_number 60 = .ok (.iaload, 1) := by decide +kernel
theorem dX11_number_61 : decode cX11_number 61 = .ok (.iadd, 1) := by decide +kernel
theorem dX11_number_62 : decode cX11_number 62 = .ok (.bipush 48, 2) := by decide +kernel
theorem dX11_number_64 : decode cX11_number 64 = .ok (.isub, 1) := by decide +kernel
theorem dX11_number_65 : decode cX11_number 65 = .ok (.istore_n 3, 1) := by decide +kernel
theorem dX11_number_66 : decode cX11_number 66 = .ok (.iinc 2 1, 3) := by decide +kernel
theorem dX11_number_69 : decode cX11_number 69 = .ok (.goto (-48), 3) := by decide +kernel
theorem dX11_number_72 : decode cX11_number 72 = .ok (.iload_n 3, 1) := by decide +kernel
theorem dX11_number_73 : decode cX11_number 73 = .ok (.bipush 99, 2) := by decide +kernel
theorem dX11_number_75 : decode cX11_number 75 = .ok (.if_icmp .le 7, 3) := by decide +kernel
theorem dX11_number_78 : decode cX11_number 78 = .ok (.iconst 0, 1) := by decide +kernel
theorem dX11_number_79 : decode cX11_number 79 = .ok (.goto 4, 3) := by decide +kernel
theorem dX11_number_82 : decode cX11_number 82 = .ok (.iload_n 3, 1) := by decide +kernel
theorem dX11_number_83 : decode cX11_number 83 = .ok (.istore_n 3, 1) := by decide +kernel
theorem dX11_number_84 : decode cX11_number 84 = .ok (.aload_n 0, 1) := by decide +kernel
theorem dX11_number_85 : decode cX11_number 85 = .ok (.iload_n 3, 1) := by decide +kernel
theorem dX11_number_86 : decode cX11_number 86 = .ok (.ifCond .ne 10, 3) := by decide +kernel
theorem dX11_number_89 : decode cX11_number 89 = .ok (.aload_n 0, 1) := by decide +kernel
theorem dX11_number_90 : decode cX11_number 90 = .ok (.getfield 166, 3) := by decide +kernel
theorem dX11_number_93 : decode cX11_number 93 = .ok (.goto 4, 3) := by decide +kernel
theorem dX11_number_96 : decode cX11_number 96 = .ok (.iload_n 2, 1) := by decide +kernel
theorem dX11_number_97 : decode cX11_number 97 = .ok (.putfield 166, 3) := by decide +kernel
theorem dX11_number_100 : decode cX11_number 100 = .ok (.iload_n 3, 1) := by decide +kernel
theorem dX11_number_101 : decode cX11_number 101 = .ok (.ireturn, 1) := by decide +kernel
theorem dX11_nameOf_0 : decode cX11_nameOf 0 = .ok (.iload_n 0, 1) := by decide +kernel
theorem dX11_nameOf_1 : decode cX11_nameOf 1 = .ok (.tableswitch 99 99 116 #[87, 93, 99, 97, 99, 99, 99, 99, 99, 89, 99, 95, 99, 99, 99, 99, 99, 91], 87) := by decide +kernel
theorem dX11_nameOf_88 : decode cX11_nameOf 88 = .ok (.iconst 0, 1) := by decide +kernel
theorem dX11_nameOf_89 : decode cX11_nameOf 89 = .ok (.ireturn, 1) := by decide +kernel
theorem dX11_nameOf_90 : decode cX11_nameOf 90 = .ok (.iconst 1, 1) := by decide +kernel
theorem dX11_nameOf_91 : decode cX11_nameOf 91 = .ok (.ireturn, 1) := by decide +kernel
theorem dX11_nameOf_92 : decode cX11_nameOf 92 = .ok (.iconst 2, 1) := by decide +kernel
theorem dX11_nameOf_93 : decode cX11_nameOf 93 = .ok (.ireturn, 1) := by decide +kernel
theorem dX11_nameOf_94 : decode cX11_nameOf 94 = .ok (.iconst 3, 1) := by decide +kernel
theorem dX11_nameOf_95 : decode cX11_nameOf 95 = .ok (.ireturn, 1) := by decide +kernel
theorem dX11_nameOf_96 : decode cX11_nameOf 96 = .ok (.iconst 4, 1) := by decide +kernel
theorem dX11_nameOf_97 : decode cX11_nameOf 97 = .ok (.ireturn, 1) := by decide +kernel
theorem dX11_nameOf_98 : decode cX11_nameOf 98 = .ok (.iconst 5, 1) := by decide +kernel
theorem dX11_nameOf_99 : decode cX11_nameOf 99 = .ok (.ireturn, 1) := by decide +kernel
theorem dX11_nameOf_100 : decode cX11_nameOf 100 = .ok (.bipush (-4), 2) := by decide +kernel
theorem dX11_nameOf_102 : decode cX11_nameOf 102 = .ok (.ireturn, 1) := by decide +kernel
theorem dX11_reads_0 : decode cX11_reads 0 = .ok (.aload_n 0, 1) := by decide +kernel
theorem dX11_reads_1 : decode cX11_reads 1 = .ok (.iconst 0, 1) := by decide +kernel
theorem dX11_reads_2 : decode cX11_reads 2 = .ok (.putfield 166, 3) := by decide +kernel
theorem dX11_reads_5 : decode cX11_reads 5 = .ok (.iconst 0, 1) := by decide +kernel
theorem dX11_reads_6 : decode cX11_reads 6 = .ok (.istore_n 1, 1) := by decide +kernel
theorem dX11_reads_7 : decode cX11_reads 7 = .ok (.iload_n 1, 1) := by decide +kernel
theorem dX11_reads_8 : decode cX11_reads 8 = .ok (.bipush 6, 2) := by decide +kernel
theorem dX11_reads_10 : decode cX11_reads 10 = .ok (.if_icmp .ge 16, 3) := by decide +kernel
theorem dX11_reads_13 : decode cX11_reads 13 = .ok (.aload_n 0, 1) := by decide +kernel
theorem dX11_reads_14 : decode cX11_reads 14 = .ok (.getfield 49, 3) := by decide +kernel
theorem dX11_reads_17 : decode cX11_reads 17 = .ok (.iload_n 1, 1) := by decide +kernel
theorem dX11_reads_18 : decode cX11_reads 18 = .ok (.iconst 0, 1) := by decide +kernel
theorem dX11_reads_19 : decode cX11_reads 19 = .ok (.iastore, 1) := by decide +kernel
theorem dX11_reads_20 : decode cX11_reads 20 = .ok (.iinc 1 1, 3) := by decide +kernel
theorem dX11_reads_23 : decode cX11_reads 23 = .ok (.goto (-16), 3) := by decide +kernel
theorem dX11_reads_26 : decode cX11_reads 26 = .ok (.iconst 0, 1) := by decide +kernel
theorem dX11_reads_27 : decode cX11_reads 27 = .ok (.istore_n 1, 1) := by decide +kernel
theorem dX11_reads_28 : decode cX11_reads 28 = .ok (.iload_n 1, 1) := by decide +kernel
theorem dX11_reads_29 : decode cX11_reads 29 = .ok (.ifCond .eq 12, 3) := by decide +kernel
theorem dX11_reads_32 : decode cX11_reads 32 = .ok (.aload_n 0, 1) := by decide +kernel
theorem dX11_reads_33 : decode cX11_reads 33 = .ok (.invokevirtual 173, 3) := by decide +kernel
theorem dX11_reads_36 : decode cX11_reads 36 = .ok (.bipush (-4), 2) := by decide +kernel
theorem dX11_reads_38 : decode cX11_reads 38 = .ok (.if_icmp .eq 146, 3) := by decide +kernel
theorem dX11_reads_41 : decode cX11_reads 41 = .ok (.aload_n 0, 1) := by decide +kernel
theorem dX11_reads_42 : decode cX11_reads 42 = .ok (.invokevirtual 173, 3) := by decide +kernel
theorem dX11_reads_45 : decode cX11_reads 45 = .ok (.istore_n 2, 1) := by decide +kernel
theorem dX11_reads_46 : decode cX11_reads 46 = .ok (.iload_n 2, 1) := by decide +kernel
theorem dX11_reads_47 : decode cX11_reads 47 = .ok (.bipush 43, 2) := by decide +kernel
theorem dX11_reads_49 : decode cX11_reads 49 = .ok (.if_icmp .eq 9, 3) := by decide +kernel
theorem dX11_reads_52 : decode cX11_reads 52 = .ok (.iload_n 2, 1) := by decide +kernel
theorem dX11_reads_53 : decode cX11_reads 53 = .ok (.bipush 45, 2) := by decide +kernel
theorem dX11_reads_55 : decode cX11_reads 55 = .ok (.if_icmp .ne 7, 3) := by decide +kernel
theorem dX11_reads_58 : decode cX11_reads 58 = .ok (.iconst 1, 1) := by decide +kernel
theorem dX11_reads_59 : decode cX11_reads 59 = .ok (.goto 4, 3) := by decide +kernel
theorem dX11_reads_62 : decode cX11_reads 62 = .ok (.iconst 0, 1) := by decide +kernel
theorem dX11_reads_63 : decode cX11_reads 63 = .ok (.istore_n 3, 1) := by decide +kernel
theorem dX11_reads_64 : decode cX11_reads 64 = .ok (.iload_n 1, 1) := by decide +kernel
theorem dX11_reads_65 : decode cX11_reads 65 = .ok (.bipush 6, 2) := by decide +kernel
theorem dX11_reads_67 : decode cX11_reads 67 = .ok (.if_icmp .eq 11, 3) := by decide +kernel
theorem dX11_reads_70 : decode cX11_reads 70 = .ok (.iload_n 1, 1) := by decide +kernel
theorem dX11_reads_71 : decode cX11_reads 71 = .ok (.ifCond .le 15, 3) := by decide +kernel
theorem dX11_reads_74 : decode cX11_reads 74 = .ok (.iload_n 3, 1) := by decide +kernel
theorem dX11_reads_75 : decode cX11_reads 75 = .ok (.ifCond .ne 11, 3) := by decide +kernel
theorem dX11_reads_78 : decode cX11_reads 78 = .ok (.bipush (-20), 2) := by decide +kernel
theorem dX11_reads_80 : decode cX11_reads 80 = .ok (.aload_n 0, 1) := by decide +kernel
theorem dX11_reads_81 : decode cX11_reads 81 = .ok (.getfield 166, 3) := by decide +kernel
theorem dX11_reads_84 : decode cX11_reads 84 = .ok (.isub, 1) := by decide +kernel
theorem dX11_reads_85 : decode cX11_reads 85 = .ok (.ireturn, 1) := by decide +kernel
theorem dX11_reads_86 : decode cX11_reads 86 = .ok (.aload_n 0, 1) := by decide +kernel
theorem dX11_reads_87 : decode cX11_reads 87 = .ok (.dup, 1) := by decide +kernel
theorem dX11_reads_88 : decode cX11_reads 88 = .ok (.getfield 166, 3) := by decide +kernel
theorem dX11_reads_91 : decode cX11_reads 91 = .ok (.iload_n 3, 1) := by decide +kernel
theorem dX11_reads_92 : decode cX11_reads 92 = .ok (.ifCond .eq 7, 3) := by decide +kernel
theorem dX11_reads_95 : decode cX11_reads 95 = .ok (.iconst 1, 1) := by decide +kernel
theorem dX11_reads_96 : decode cX11_reads 96 = .ok (.goto 4, 3) := by decide +kernel
theorem dX11_reads_99 : decode cX11_reads 99 = .ok (.iconst 0, 1) := by decide +kernel
theorem dX11_reads_100 : decode cX11_reads 100 = .ok (.iadd, 1) := by decide +kernel
theorem dX11_reads_101 : decode cX11_reads 101 = .ok (.putfield 166, 3) := by decide +kernel
theorem dX11_reads_104 : decode cX11_reads 104 = .ok (.aload_n 0, 1) := by decide +kernel
theorem dX11_reads_105 : decode cX11_reads 105 = .ok (.invokevirtual 179, 3) := by decide +kernel
theorem dX11_reads_108 : decode cX11_reads 108 = .ok (.istore 4, 2) := by decide +kernel
theorem dX11_reads_110 : decode cX11_reads 110 = .ok (.iload 4, 2) := by decide +kernel
theorem dX11_reads_112 : decode cX11_reads 112 = .ok (.ifCond .ne 8, 3) := by decide +kernel
theorem dX11_reads_115 : decode cX11_reads 115 = .ok (.bipush (-4), 2) := by decide +kernel
theorem dX11_reads_117 : decode cX11_reads 117 = .ok (.goto 10, 3) := by decide +kernel
theorem dX11_reads_120 : decode cX11_reads 120 = .ok (.aload_n 0, 1) := by decide +kernel
theorem dX11_reads_121 : decode cX11_reads 121 = .ok (.invokevirtual 173, 3) := by decide +kernel
theorem dX11_reads_124 : decode cX11_reads 124 = .ok (.invokestatic 182, 3) := by decide +kernel
theorem dX11_reads_127 : decode cX11_reads 127 = .ok (.istore 5, 2) := by decide +kernel
theorem dX11_reads_129 : decode cX11_reads 129 = .ok (.iload 5, 2) := by decide +kernel
theorem dX11_reads_131 : decode cX11_reads 131 = .ok (.bipush (-4), 2) := by decide +kernel
theorem dX11_reads_133 : decode cX11_reads 133 = .ok (.if_icmp .ne 11, 3) := by decide +kernel
theorem dX11_reads_136 : decode cX11_reads 136 = .ok (.bipush (-20), 2) := by decide +kernel
theorem dX11_reads_138 : decode cX11_reads 138 = .ok (.aload_n 0, 1) := by decide +kernel
theorem dX11_reads_139 : decode cX11_reads 139 = .ok (.getfield 166, 3) := by decide +kernel
theorem dX11_reads_142 : decode cX11_reads 142 = .ok (.isub, 1) := by decide +kernel
theorem dX11_reads_143 : decode cX11_reads 143 = .ok (.ireturn, 1) := by decide +kernel
theorem dX11_reads_144 : decode cX11_reads 144 = .ok (.aload_n 0, 1) := by decide +kernel
theorem dX11_reads_145 : decode cX11_reads 145 = .ok (.dup, 1) := by decide +kernel
theorem dX11_reads_146 : decode cX11_reads 146 = .ok (.getfield 166, 3) := by decide +kernel
theorem dX11_reads_149 : decode cX11_reads 149 = .ok (.iconst 1, 1) := by decide +kernel
theorem dX11_reads_150 : decode cX11_reads 150 = .ok (.iadd, 1) := by decide +kernel
theorem dX11_reads_151 : decode cX11_reads 151 = .ok (.putfield 166, 3) := by decide +kernel
theorem dX11_reads_154 : decode cX11_reads 154 = .ok (.aload_n 0, 1) := by decide +kernel
theorem dX11_reads_155 : decode cX11_reads 155 = .ok (.getfield 49, 3) := by decide +kernel
theorem dX11_reads_158 : decode cX11_reads 158 = .ok (.iload 5, 2) := by decide +kernel
theorem dX11_reads_160 : decode cX11_reads 160 = .ok (.dup2, 1) := by decide +kernel
theorem dX11_reads_161 : decode cX11_reads 161 = .ok (.iaload, 1) := by decide +kernel
theorem dX11_reads_162 : decode cX11_reads 162 = .ok (.iload_n 2, 1) := by decide +kernel
theorem dX11_reads_163 : decode cX11_reads 163 = .ok (.bipush 45, 2) := by decide +kernel
theorem dX11_reads_165 : decode cX11_reads 165 = .ok (.if_icmp .ne 9, 3) := by decide +kernel
theorem dX11_reads_168 : decode cX11_reads 168 = .ok (.iload 4, 2) := by decide +kernel
theorem dX11_reads_170 : decode cX11_reads 170 = .ok (.ineg, 1) := by decide +kernel
theorem dX11_reads_171 : decode cX11_reads 171 = .ok (.goto 5, 3) := by decide +kernel
theorem dX11_reads_174 : decode cX11_reads 174 = .ok (.iload 4, 2) := by decide +kernel
theorem dX11_reads_176 : decode cX11_reads 176 = .ok (.iadd, 1) := by decide +kernel
theorem dX11_reads_177 : decode cX11_reads 177 = .ok (.iastore, 1) := by decide +kernel
theorem dX11_reads_178 : decode cX11_reads 178 = .ok (.iinc 1 1, 3) := by decide +kernel
theorem dX11_reads_181 : decode cX11_reads 181 = .ok (.goto (-153), 3) := by decide +kernel
theorem dX11_reads_184 : decode cX11_reads 184 = .ok (.iload_n 1, 1) := by decide +kernel
theorem dX11_reads_185 : decode cX11_reads 185 = .ok (.ireturn, 1) := by decide +kernel
theorem dX11_rule_0 : decode cX11_rule 0 = .ok (.iload_n 1, 1) := by decide +kernel
theorem dX11_rule_1 : decode cX11_rule 1 = .ok (.i2l, 1) := by decide +kernel
theorem dX11_rule_2 : decode cX11_rule 2 = .ok (.lconst 0, 1) := by decide +kernel
theorem dX11_rule_3 : decode cX11_rule 3 = .ok (.lconst 1, 1) := by decide +kernel
theorem dX11_rule_4 : decode cX11_rule 4 = .ok (.invokestatic 70, 3) := by decide +kernel
theorem dX11_rule_7 : decode cX11_rule 7 = .ok (.ifCond .ne 5, 3) := by decide +kernel
theorem dX11_rule_10 : decode cX11_rule 10 = .ok (.iconst (-1), 1) := by decide +kernel
theorem dX11_rule_11 : decode cX11_rule 11 = .ok (.ireturn, 1) := by decide +kernel
theorem dX11_rule_12 : decode cX11_rule 12 = .ok (.aload_n 0, 1) := by decide +kernel
theorem dX11_rule_13 : decode cX11_rule 13 = .ok (.invokevirtual 186, 3) := by decide +kernel
theorem dX11_rule_16 : decode cX11_rule 16 = .ok (.istore_n 2, 1) := by decide +kernel
theorem dX11_rule_17 : decode cX11_rule 17 = .ok (.aload_n 0, 1) := by decide +kernel
theorem dX11_rule_18 : decode cX11_rule 18 = .ok (.iconst 0, 1) := by decide +kernel
theorem dX11_rule_19 : decode cX11_rule 19 = .ok (.putfield 163, 3) := by decide +kernel
theorem dX11_rule_22 : decode cX11_rule 22 = .ok (.iconst 0, 1) := by decide +kernel
theorem dX11_rule_23 : decode cX11_rule 23 = .ok (.istore_n 3, 1) := by decide +kernel
theorem dX11_rule_24 : decode cX11_rule 24 = .ok (.iload_n 3, 1) := by decide +kernel
theorem dX11_rule_25 : decode cX11_rule 25 = .ok (.bipush 6, 2) := by decide +kernel
theorem dX11_rule_27 : decode cX11_rule 27 = .ok (.if_icmp .ge 30, 3) := by decide +kernel
theorem dX11_rule_30 : decode cX11_rule 30 = .ok (.iload_n 2, 1) := by decide +kernel
theorem dX11_rule_31 : decode cX11_rule 31 = .ok (.ifCond .le 26, 3) := by decide +kernel
theorem dX11_rule_34 : decode cX11_rule 34 = .ok (.aload_n 0, 1) := by decide +kernel
theorem dX11_rule_35 : decode cX11_rule 35 = .ok (.getfield 31, 3) := by decide +kernel
theorem dX11_rule_38 : decode cX11_rule 38 = .ok (.bipush 6, 2) := by decide +kernel
theorem dX11_rule_40 : decode cX11_rule 40 = .ok (.iload_n 1, 1) := by decide +kernel
theorem dX11_rule_41 : decode cX11_rule 41 = .ok (.imul, 1) := by decide +kernel
theorem dX11_rule_42 : decode cX11_rule 42 = .ok (.iload_n 3, 1) := by decide +kernel
theorem dX11_rule_43 : decode cX11_rule 43 = .ok (.iadd, 1) := by decide +kernel
theorem dX11_rule_44 : decode cX11_rule 44 = .ok (.aload_n 0, 1) := by decide +kernel
theorem dX11_rule_45 : decode cX11_rule 45 = .ok (.getfield 49, 3) := by decide +kernel
theorem dX11_rule_48 : decode cX11_rule 48 = .ok (.iload_n 3, 1) := by decide +kernel
theorem dX11_rule_49 : decode cX11_rule 49 = .ok (.iaload, 1) := by decide +kernel
theorem dX11_rule_50 : decode cX11_rule 50 = .ok (.iastore, 1) := by decide +kernel
theorem dX11_rule_51 : decode cX11_rule 51 = .ok (.iinc 3 1, 3) := by decide +kernel
theorem dX11_rule_54 : decode cX11_rule 54 = .ok (.goto (-30), 3) := by decide +kernel
theorem dX11_rule_57 : decode cX11_rule 57 = .ok (.iload_n 2, 1) := by decide +kernel
theorem dX11_rule_58 : decode cX11_rule 58 = .ok (.ireturn, 1) := by decide +kernel
theorem dX11_toldOf_0 : decode cX11_toldOf 0 = .ok (.iload_n 2, 1) := by decide +kernel
theorem dX11_toldOf_1 : decode cX11_toldOf 1 = .ok (.tableswitch 118 0 8 #[51, 59, 67, 74, 81, 88, 96, 103, 110], 51) := by decide +kernel
theorem dX11_toldOf_52 : decode cX11_toldOf 52 = .ok (.aload_n 0, 1) := by decide +kernel
theorem dX11_toldOf_53 : decode cX11_toldOf 53 = .ok (.iload_n 1, 1) := by decide +kernel
theorem dX11_toldOf_54 : decode cX11_toldOf 54 = .ok (.bipush 9, 2) := by decide +kernel
theorem dX11_toldOf_56 : decode cX11_toldOf 56 = .ok (.invokevirtual 99, 3) := by decide +kernel
theorem dX11_toldOf_59 : decode cX11_toldOf 59 = .ok (.ireturn, 1) := by decide +kernel
theorem dX11_toldOf_60 : decode cX11_toldOf 60 = .ok (.aload_n 0, 1) := by decide +kernel
theorem dX11_toldOf_61 : decode cX11_toldOf 61 = .ok (.iload_n 1, 1) := by decide +kernel
theorem dX11_toldOf_62 : decode cX11_toldOf 62 = .ok (.bipush 6, 2) := by decide +kernel
theorem dX11_toldOf_64 : decode cX11_toldOf 64 = .ok (.invokevirtual 99, 3) := by decide +kernel
theorem dX11_toldOf_67 : decode cX11_toldOf 67 = .ok (.ireturn, 1) := by decide +kernel
theorem dX11_toldOf_68 : decode cX11_toldOf 68 = .ok (.aload_n 0, 1) := by decide +kernel
theorem dX11_toldOf_69 : decode cX11_toldOf 69 = .ok (.iload_n 1, 1) := by decide +kernel
theorem dX11_toldOf_70 : decode cX11_toldOf 70 = .ok (.iconst 1, 1) := by decide +kernel
theorem dX11_toldOf_71 : decode cX11_toldOf 71 = .ok (.invokevirtual 99, 3) := by decide +kernel
theorem dX11_toldOf_74 : decode cX11_toldOf 74 = .ok (.ireturn, 1) := by decide +kernel
theorem dX11_toldOf_75 : decode cX11_toldOf 75 = .ok (.aload_n 0, 1) := by decide +kernel
theorem dX11_toldOf_76 : decode cX11_toldOf 76 = .ok (.iload_n 1, 1) := by decide +kernel
theorem dX11_toldOf_77 : decode cX11_toldOf 77 = .ok (.iconst 2, 1) := by decide +kernel
theorem dX11_toldOf_78 : decode cX11_toldOf 78 = .ok (.invokevirtual 99, 3) := by decide +kernel
theorem dX11_toldOf_81 : decode cX11_toldOf 81 = .ok (.ireturn, 1) := by decide +kernel
theorem dX11_toldOf_82 : decode cX11_toldOf 82 = .ok (.aload_n 0, 1) := by decide +kernel
theorem dX11_toldOf_83 : decode cX11_toldOf 83 = .ok (.iload_n 1, 1) := by decide +kernel
theorem dX11_toldOf_84 : decode cX11_toldOf 84 = .ok (.iconst 5, 1) := by decide +kernel
theorem dX11_toldOf_85 : decode cX11_toldOf 85 = .ok (.invokevirtual 99, 3) := by decide +kernel
theorem dX11_toldOf_88 : decode cX11_toldOf 88 = .ok (.ireturn, 1) := by decide +kernel
theorem dX11_toldOf_89 : decode cX11_toldOf 89 = .ok (.aload_n 0, 1) := by decide +kernel
theorem dX11_toldOf_90 : decode cX11_toldOf 90 = .ok (.iload_n 1, 1) := by decide +kernel
theorem dX11_toldOf_91 : decode cX11_toldOf 91 = .ok (.bipush 7, 2) := by decide +kernel
theorem dX11_toldOf_93 : decode cX11_toldOf 93 = .ok (.invokevirtual 99, 3) := by decide +kernel
theorem dX11_toldOf_96 : decode cX11_toldOf 96 = .ok (.ireturn, 1) := by decide +kernel
theorem dX11_toldOf_97 : decode cX11_toldOf 97 = .ok (.aload_n 0, 1) := by decide +kernel
theorem dX11_toldOf_98 : decode cX11_toldOf 98 = .ok (.iload_n 1, 1) := by decide +kernel
theorem dX11_toldOf_99 : decode cX11_toldOf 99 = .ok (.iconst 3, 1) := by decide +kernel
theorem dX11_toldOf_100 : decode cX11_toldOf 100 = .ok (.invokevirtual 99, 3) := by decide +kernel
theorem dX11_toldOf_103 : decode cX11_toldOf 103 = .ok (.ireturn, 1) := by decide +kernel
theorem dX11_toldOf_104 : decode cX11_toldOf 104 = .ok (.aload_n 0, 1) := by decide +kernel
theorem dX11_toldOf_105 : decode cX11_toldOf 105 = .ok (.iload_n 1, 1) := by decide +kernel
theorem dX11_toldOf_106 : decode cX11_toldOf 106 = .ok (.iconst 4, 1) := by decide +kernel
theorem dX11_toldOf_107 : decode cX11_toldOf 107 = .ok (.invokevirtual 99, 3) := by decide +kernel
theorem dX11_toldOf_110 : decode cX11_toldOf 110 = .ok (.ireturn, 1) := by decide +kernel
theorem dX11_toldOf_111 : decode cX11_toldOf 111 = .ok (.aload_n 0, 1) := by decide +kernel
theorem dX11_toldOf_112 : decode cX11_toldOf 112 = .ok (.iload_n 1, 1) := by decide +kernel
theorem dX11_toldOf_113 : decode cX11_toldOf 113 = .ok (.bipush 10, 2) := by decide +kernel
theorem dX11_toldOf_115 : decode cX11_toldOf 115 = .ok (.invokevirtual 99, 3) := by decide +kernel
theorem dX11_toldOf_118 : decode cX11_toldOf 118 = .ok (.ireturn, 1) := by decide +kernel
theorem dX11_toldOf_119 : decode cX11_toldOf 119 = .ok (.aload_n 0, 1) := by decide +kernel
theorem dX11_toldOf_120 : decode cX11_toldOf 120 = .ok (.iload_n 1, 1) := by decide +kernel
theorem dX11_toldOf_121 : decode cX11_toldOf 121 = .ok (.bipush 8, 2) := by decide +kernel
theorem dX11_toldOf_123 : decode cX11_toldOf 123 = .ok (.invokevirtual 99, 3) := by decide +kernel
theorem dX11_toldOf_126 : decode cX11_toldOf 126 = .ok (.ireturn, 1) := by decide +kernel
theorem dX11_told_0 : decode cX11_told 0 = .ok (.aload_n 0, 1) := by decide +kernel
theorem dX11_told_1 : decode cX11_told 1 = .ok (.iload_n 1, 1) := by decide +kernel
theorem dX11_told_2 : decode cX11_told 2 = .ok (.invokevirtual 189, 3) := by decide +kernel
theorem dX11_told_5 : decode cX11_told 5 = .ok (.ifCond .eq 24, 3) := by decide +kernel
theorem dX11_told_8 : decode cX11_told 8 = .ok (.iload_n 2, 1) := by decide +kernel
theorem dX11_told_9 : decode cX11_told 9 = .ok (.i2l, 1) := by decide +kernel
theorem dX11_told_10 : decode cX11_told 10 = .ok (.lconst 0, 1) := by decide +kernel
theorem dX11_told_11 : decode cX11_told 11 = .ok (.ldc2_w 74, 3) := by decide +kernel
theorem dX11_told_14 : decode cX11_told 14 = .ok (.invokestatic 70, 3) := by decide +kernel
theorem dX11_told_17 : decode cX11_told 17 = .ok (.ifCond .eq 12, 3) := by decide +kernel
theorem dX11_told_20 : decode cX11_told 20 = .ok (.aload_n 0, 1) := by decide +kernel
theorem dX11_told_21 : decode cX11_told 21 = .ok (.iload_n 1, 1) := by decide +kernel
theorem dX11_told_22 : decode cX11_told 22 = .ok (.iload_n 2, 1) := by decide +kernel
theorem dX11_told_23 : decode cX11_told 23 = .ok (.invokevirtual 192, 3) := by decide +kernel
theorem dX11_told_26 : decode cX11_told 26 = .ok (.goto 4, 3) := by decide +kernel
theorem dX11_told_29 : decode cX11_told 29 = .ok (.iconst (-1), 1) := by decide +kernel
theorem dX11_told_30 : decode cX11_told 30 = .ok (.ireturn, 1) := by decide +kernel
theorem dX11_rank_0 : decode cX11_rank 0 = .ok (.aload_n 0, 1) := by decide +kernel
theorem dX11_rank_1 : decode cX11_rank 1 = .ok (.iload_n 1, 1) := by decide +kernel
theorem dX11_rank_2 : decode cX11_rank 2 = .ok (.invokevirtual 189, 3) := by decide +kernel
theorem dX11_rank_5 : decode cX11_rank 5 = .ok (.ifCond .eq 22, 3) := by decide +kernel
theorem dX11_rank_8 : decode cX11_rank 8 = .ok (.iload_n 2, 1) := by decide +kernel
theorem dX11_rank_9 : decode cX11_rank 9 = .ok (.i2l, 1) := by decide +kernel
theorem dX11_rank_10 : decode cX11_rank 10 = .ok (.lconst 0, 1) := by decide +kernel
theorem dX11_rank_11 : decode cX11_rank 11 = .ok (.lconst 1, 1) := by decide +kernel
theorem dX11_rank_12 : decode cX11_rank 12 = .ok (.invokestatic 70, 3) := by decide +kernel
theorem dX11_rank_15 : decode cX11_rank 15 = .ok (.ifCond .eq 12, 3) := by decide +kernel
theorem dX11_rank_18 : decode cX11_rank 18 = .ok (.aload_n 0, 1) := by decide +kernel
theorem dX11_rank_19 : decode cX11_rank 19 = .ok (.iload_n 1, 1) := by decide +kernel
theorem dX11_rank_20 : decode cX11_rank 20 = .ok (.iload_n 2, 1) := by decide +kernel
theorem dX11_rank_21 : decode cX11_rank 21 = .ok (.invokevirtual 134, 3) := by decide +kernel
theorem dX11_rank_24 : decode cX11_rank 24 = .ok (.goto 6, 3) := by decide +kernel
theorem dX11_rank_27 : decode cX11_rank 27 = .ok (.ldc2_w 195, 3) := by decide +kernel
theorem dX11_rank_30 : decode cX11_rank 30 = .ok (.lreturn, 1) := by decide +kernel
theorem dX11_full_0 : decode cX11_full 0 = .ok (.iload_n 1, 1) := by decide +kernel
theorem dX11_full_1 : decode cX11_full 1 = .ok (.ifCond .ne 27, 3) := by decide +kernel
theorem dX11_full_4 : decode cX11_full 4 = .ok (.iload_n 2, 1) := by decide +kernel
theorem dX11_full_5 : decode cX11_full 5 = .ok (.i2l, 1) := by decide +kernel
theorem dX11_full_6 : decode cX11_full 6 = .ok (.lconst 1, 1) := by decide +kernel
theorem dX11_full_7 : decode cX11_full 7 = .ok (.ldc2_w 197, 3) := by decide +kernel
theorem dX11_full_10 : decode cX11_full 10 = .ok (.invokestatic 70, 3) := by decide +kernel
theorem dX11_full_13 : decode cX11_full 13 = .ok (.ifCond .eq 15, 3) := by decide +kernel
theorem dX11_full_16 : decode cX11_full 16 = .ok (.aload_n 0, 1) := by decide +kernel
theorem dX11_full_17 : decode cX11_full 17 = .ok (.getfield 65, 3) := by decide +kernel
theorem dX11_full_20 : decode cX11_full 20 = .ok (.istore_n 3, 1) := by decide +kernel
theorem dX11_full_21 : decode cX11_full 21 = .ok (.aload_n 0, 1) := by decide +kernel
theorem dX11_full_22 : decode cX11_full 22 = .ok (.iload_n 2, 1) := by decide +kernel
theorem dX11_full_23 : decode cX11_full 23 = .ok (.putfield 65, 3) := by decide +kernel
theorem dX11_full_26 : decode cX11_full 26 = .ok (.iload_n 3, 1) := by decide +kernel
theorem dX11_full_27 : decode cX11_full 27 = .ok (.ireturn, 1) := by decide +kernel
theorem dX11_full_28 : decode cX11_full 28 = .ok (.iload_n 1, 1) := by decide +kernel
theorem dX11_full_29 : decode cX11_full 29 = .ok (.iconst 1, 1) := by decide +kernel
theorem dX11_full_30 : decode cX11_full 30 = .ok (.if_icmp .ne 27, 3) := by decide +kernel
theorem dX11_full_33 : decode cX11_full 33 = .ok (.iload_n 2, 1) := by decide +kernel
theorem dX11_full_34 : decode cX11_full 34 = .ok (.i2l, 1) := by decide +kernel
theorem dX11_full_35 : decode cX11_full 35 = .ok (.lconst 0, 1) := by decide +kernel
theorem dX11_full_36 : decode cX11_full 36 = .ok (.ldc2_w 138, 3) := by decide +kernel
theorem dX11_full_39 : decode cX11_full 39 = .ok (.invokestatic 70, 3) := by decide +kernel
theorem dX11_full_42 : decode cX11_full 42 = .ok (.ifCond .eq 15, 3) := by decide +kernel
theorem dX11_full_45 : decode cX11_full 45 = .ok (.aload_n 0, 1) := by decide +kernel
theorem dX11_full_46 : decode cX11_full 46 = .ok (.getfield 122, 3) := by decide +kernel
theorem dX11_full_49 : decode cX11_full 49 = .ok (.istore_n 3, 1) := by decide +kernel
theorem dX11_full_50 : decode cX11_full 50 = .ok (.aload_n 0, 1) := by decide +kernel
theorem dX11_full_51 : decode cX11_full 51 = .ok (.iload_n 2, 1) := by decide +kernel
theorem dX11_full_52 : decode cX11_full 52 = .ok (.putfield 122, 3) := by decide +kernel
theorem dX11_full_55 : decode cX11_full 55 = .ok (.iload_n 3, 1) := by decide +kernel
theorem dX11_full_56 : decode cX11_full 56 = .ok (.ireturn, 1) := by decide +kernel
theorem dX11_full_57 : decode cX11_full 57 = .ok (.iconst (-1), 1) := by decide +kernel
theorem dX11_full_58 : decode cX11_full 58 = .ok (.ireturn, 1) := by decide +kernel
theorem dX11_isOpen_0 : decode cX11_isOpen 0 = .ok (.aload_n 0, 1) := by decide +kernel
theorem dX11_isOpen_1 : decode cX11_isOpen 1 = .ok (.iload_n 1, 1) := by decide +kernel
theorem dX11_isOpen_2 : decode cX11_isOpen 2 = .ok (.bipush 9, 2) := by decide +kernel
theorem dX11_isOpen_4 : decode cX11_isOpen 4 = .ok (.invokevirtual 99, 3) := by decide +kernel
theorem dX11_isOpen_7 : decode cX11_isOpen 7 = .ok (.ifCond .ne 21, 3) := by decide +kernel
theorem dX11_isOpen_10 : decode cX11_isOpen 10 = .ok (.aload_n 0, 1) := by decide +kernel
theorem dX11_isOpen_11 : decode cX11_isOpen 11 = .ok (.iload_n 1, 1) := by decide +kernel
theorem dX11_isOpen_12 : decode cX11_isOpen 12 = .ok (.bipush 7, 2) := by decide +kernel
theorem dX11_isOpen_14 : decode cX11_isOpen 14 = .ok (.invokevirtual 99, 3) := by decide +kernel
theorem dX11_isOpen_17 : decode cX11_isOpen 17 = .ok (.aload_n 0, 1) := by decide +kernel
theorem dX11_isOpen_18 : decode cX11_isOpen 18 = .ok (.getfield 111, 3) := by decide +kernel
theorem dX11_isOpen_21 : decode cX11_isOpen 21 = .ok (.if_icmp .gt 7, 3) := by decide +kernel
theorem dX11_isOpen_24 : decode cX11_isOpen 24 = .ok (.iconst 1, 1) := by decide +kernel
theorem dX11_isOpen_25 : decode cX11_isOpen 25 = .ok (.goto 4, 3) := by decide +kernel
theorem dX11_isOpen_28 : decode cX11_isOpen 28 = .ok (.iconst 0, 1) := by decide +kernel
theorem dX11_isOpen_29 : decode cX11_isOpen 29 = .ok (.ireturn, 1) := by decide +kernel
theorem dX11_hasOpen_0 : decode cX11_hasOpen 0 = .ok (.iconst 0, 1) := by decide +kernel
theorem dX11_hasOpen_1 : decode cX11_hasOpen 1 = .ok (.istore_n 2, 1) := by decide +kernel
theorem dX11_hasOpen_2 : decode cX11_hasOpen 2 = .ok (.iconst 0, 1) := by decide +kernel
theorem dX11_hasOpen_3 : decode cX11_hasOpen 3 = .ok (.istore_n 3, 1) := by decide +kernel
theorem dX11_hasOpen_4 : decode cX11_hasOpen 4 = .ok (.iload_n 3, 1) := by decide +kernel
theorem dX11_hasOpen_5 : decode cX11_hasOpen 5 = .ok (.aload_n 0, 1) := by decide +kernel
theorem dX11_hasOpen_6 : decode cX11_hasOpen 6 = .ok (.getfield 96, 3) := by decide +kernel
theorem dX11_hasOpen_9 : decode cX11_hasOpen 9 = .ok (.if_icmp .ge 38, 3) := by decide +kernel
theorem dX11_hasOpen_12 : decode cX11_hasOpen 12 = .ok (.iload_n 2, 1) := by decide +kernel
theorem dX11_hasOpen_13 : decode cX11_hasOpen 13 = .ok (.ifCond .ne 34, 3) := by decide +kernel
theorem dX11_hasOpen_16 : decode cX11_hasOpen 16 = .ok (.aload_n 0, 1) := by decide +kernel
theorem dX11_hasOpen_17 : decode cX11_hasOpen 17 = .ok (.iload_n 3, 1) := by decide +kernel
theorem dX11_hasOpen_18 : decode cX11_hasOpen 18 = .ok (.invokevirtual 199, 3) := by decide +kernel
theorem dX11_hasOpen_21 : decode cX11_hasOpen 21 = .ok (.ifCond .eq 18, 3) := by decide +kernel
theorem dX11_hasOpen_24 : decode cX11_hasOpen 24 = .ok (.aload_n 0, 1) := by decide +kernel
theorem dX11_hasOpen_25 : decode cX11_hasOpen 25 = .ok (.iload_n 3, 1) := by decide +kernel
theorem dX11_hasOpen_26 : decode cX11_hasOpen 26 = .ok (.bipush 8, 2) := by decide +kernel
theorem dX11_hasOpen_28 : decode cX11_hasOpen 28 = .ok (.invokevirtual 99, 3) := by decide +kernel
theorem dX11_hasOpen_31 : decode cX11_hasOpen 31 = .ok (.iload_n 1, 1) := by decide +kernel
theorem dX11_hasOpen_32 : decode cX11_hasOpen 32 = .ok (.if_icmp .ne 7, 3) := by decide +kernel
theorem dX11_hasOpen_35 : decode cX11_hasOpen 35 = .ok (.iconst 1, 1) := by decide +kernel
theorem dX11_hasOpen_36 : decode cX11_hasOpen 36 = .ok (.goto 4, 3) := by decide +kernel
theorem dX11_hasOpen_39 : decode cX11_hasOpen 39 = .ok (.iconst 0, 1) := by decide +kernel
theorem dX11_hasOpen_40 : decode cX11_hasOpen 40 = .ok (.istore_n 2, 1) := by decide +kernel
theorem dX11_hasOpen_41 : decode cX11_hasOpen 41 = .ok (.iinc 3 1, 3) := by decide +kernel
theorem dX11_hasOpen_44 : decode cX11_hasOpen 44 = .ok (.goto (-40), 3) := by decide +kernel
theorem dX11_hasOpen_47 : decode cX11_hasOpen 47 = .ok (.iload_n 2, 1) := by decide +kernel
theorem dX11_hasOpen_48 : decode cX11_hasOpen 48 = .ok (.ireturn, 1) := by decide +kernel
theorem dX11_markNext_0 : decode cX11_markNext 0 = .ok (.bipush (-4), 2) := by decide +kernel
theorem dX11_markNext_2 : decode cX11_markNext 2 = .ok (.istore_n 1, 1) := by decide +kernel
theorem dX11_markNext_3 : decode cX11_markNext 3 = .ok (.iconst 0, 1) := by decide +kernel
theorem dX11_markNext_4 : decode cX11_markNext 4 = .ok (.istore_n 2, 1) := by decide +kernel
theorem dX11_markNext_5 : decode cX11_markNext 5 = .ok (.iload_n 2, 1) := by decide +kernel
theorem dX11_markNext_6 : decode cX11_markNext 6 = .ok (.aload_n 0, 1) := by decide +kernel
theorem dX11_markNext_7 : decode cX11_markNext 7 = .ok (.getfield 96, 3) := by decide +kernel
theorem dX11_markNext_10 : decode cX11_markNext 10 = .ok (.if_icmp .ge 72, 3) := by decide +kernel
theorem dX11_markNext_13 : decode cX11_markNext 13 = .ok (.aload_n 0, 1) := by decide +kernel
theorem dX11_markNext_14 : decode cX11_markNext 14 = .ok (.iload_n 2, 1) := by decide +kernel
theorem dX11_markNext_15 : decode cX11_markNext 15 = .ok (.bipush 12, 2) := by decide +kernel
theorem dX11_markNext_17 : decode cX11_markNext 17 = .ok (.invokevirtual 99, 3) := by decide +kernel
theorem dX11_markNext_20 : decode cX11_markNext 20 = .ok (.iconst 1, 1) := by decide +kernel
theorem dX11_markNext_21 : decode cX11_markNext 21 = .ok (.if_icmp .ne 21, 3) := by decide +kernel
theorem dX11_markNext_24 : decode cX11_markNext 24 = .ok (.aload_n 0, 1) := by decide +kernel
theorem dX11_markNext_25 : decode cX11_markNext 25 = .ok (.aload_n 0, 1) := by decide +kernel
theorem dX11_markNext_26 : decode cX11_markNext 26 = .ok (.iload_n 2, 1) := by decide +kernel
theorem dX11_markNext_27 : decode cX11_markNext 27 = .ok (.bipush 8, 2) := by decide +kernel
theorem dX11_markNext_29 : decode cX11_markNext 29 = .ok (.invokevirtual 99, 3) := by decide +kernel
theorem dX11_markNext_32 : decode cX11_markNext 32 = .ok (.invokevirtual 202, 3) := by decide +kernel
theorem dX11_markNext_35 : decode cX11_markNext 35 = .ok (.ifCond .eq 7, 3) := by decide +kernel
theorem dX11_markNext_38 : decode cX11_markNext 38 = .ok (.iconst 1, 1) := by decide +kernel
theorem dX11_markNext_39 : decode cX11_markNext 39 = .ok (.goto 4, 3) := by decide +kernel
theorem dX11_markNext_42 : decode cX11_markNext 42 = .ok (.iconst 0, 1) := by decide +kernel
theorem dX11_markNext_43 : decode cX11_markNext 43 = .ok (.istore_n 3, 1) := by decide +kernel
theorem dX11_markNext_44 : decode cX11_markNext 44 = .ok (.iload_n 3, 1) := by decide +kernel
theorem dX11_markNext_45 : decode cX11_markNext 45 = .ok (.ifCond .eq 29, 3) := by decide +kernel
theorem dX11_markNext_48 : decode cX11_markNext 48 = .ok (.iload_n 1, 1) := by decide +kernel
theorem dX11_markNext_49 : decode cX11_markNext 49 = .ok (.bipush (-4), 2) := by decide +kernel
theorem dX11_markNext_51 : decode cX11_markNext 51 = .ok (.if_icmp .eq 19, 3) := by decide +kernel
theorem dX11_markNext_54 : decode cX11_markNext 54 = .ok (.aload_n 0, 1) := by decide +kernel
theorem dX11_markNext_55 : decode cX11_markNext 55 = .ok (.iload_n 2, 1) := by decide +kernel
theorem dX11_markNext_56 : decode cX11_markNext 56 = .ok (.iconst 1, 1) := by decide +kernel
theorem dX11_markNext_57 : decode cX11_markNext 57 = .ok (.invokevirtual 134, 3) := by decide +kernel
theorem dX11_markNext_60 : decode cX11_markNext 60 = .ok (.aload_n 0, 1) := by decide +kernel
theorem dX11_markNext_61 : decode cX11_markNext 61 = .ok (.iload_n 1, 1) := by decide +kernel
theorem dX11_markNext_62 : decode cX11_markNext 62 = .ok (.iconst 1, 1) := by decide +kernel
theorem dX11_markNext_63 : decode cX11_markNext 63 = .ok (.invokevirtual 134, 3) := by decide +kernel
theorem dX11_markNext_66 : decode cX11_markNext 66 = .ok (.lcmp, 1) := by decide +kernel
theorem dX11_markNext_67 : decode cX11_markNext 67 = .ok (.ifCond .ge 7, 3) := by decide +kernel
theorem dX11_markNext_70 : decode cX11_markNext 70 = .ok (.iload_n 2, 1) := by decide +kernel
theorem dX11_markNext_71 : decode cX11_markNext 71 = .ok (.goto 4, 3) := by decide +kernel
theorem dX11_markNext_74 : decode cX11_markNext 74 = .ok (.iload_n 1, 1) := by decide +kernel
theorem dX11_markNext_75 : decode cX11_markNext 75 = .ok (.istore_n 1, 1) := by decide +kernel
theorem dX11_markNext_76 : decode cX11_markNext 76 = .ok (.iinc 2 1, 3) := by decide +kernel
theorem dX11_markNext_79 : decode cX11_markNext 79 = .ok (.goto (-74), 3) := by decide +kernel
theorem dX11_markNext_82 : decode cX11_markNext 82 = .ok (.iload_n 1, 1) := by decide +kernel
theorem dX11_markNext_83 : decode cX11_markNext 83 = .ok (.ireturn, 1) := by decide +kernel
theorem dX11_wordOf_0 : decode cX11_wordOf 0 = .ok (.bipush (-4), 2) := by decide +kernel
theorem dX11_wordOf_2 : decode cX11_wordOf 2 = .ok (.istore_n 2, 1) := by decide +kernel
theorem dX11_wordOf_3 : decode cX11_wordOf 3 = .ok (.iconst 0, 1) := by decide +kernel
theorem dX11_wordOf_4 : decode cX11_wordOf 4 = .ok (.istore_n 3, 1) := by decide +kernel
theorem dX11_wordOf_5 : decode cX11_wordOf 5 = .ok (.iload_n 3, 1) := by decide +kernel
theorem dX11_wordOf_6 : decode cX11_wordOf 6 = .ok (.aload_n 0, 1) := by decide +kernel
theorem dX11_wordOf_7 : decode cX11_wordOf 7 = .ok (.getfield 96, 3) := by decide +kernel
theorem dX11_wordOf_10 : decode cX11_wordOf 10 = .ok (.if_icmp .ge 68, 3) := by decide +kernel
theorem dX11_wordOf_13 : decode cX11_wordOf 13 = .ok (.aload_n 0, 1) := by decide +kernel
theorem dX11_wordOf_14 : decode cX11_wordOf 14 = .ok (.iload_n 3, 1) := by decide +kernel
theorem dX11_wordOf_15 : decode cX11_wordOf 15 = .ok (.invokevirtual 199, 3) := by decide +kernel
theorem dX11_wordOf_18 : decode cX11_wordOf 18 = .ok (.ifCond .eq 18, 3) := by decide +kernel
theorem dX11_wordOf_21 : decode cX11_wordOf 21 = .ok (.aload_n 0, 1) := by decide +kernel
theorem dX11_wordOf_22 : decode cX11_wordOf 22 = .ok (.iload_n 3, 1) := by decide +kernel
theorem dX11_wordOf_23 : decode cX11_wordOf 23 = .ok (.bipush 8, 2) := by decide +kernel
theorem dX11_wordOf_25 : decode cX11_wordOf 25 = .ok (.invokevirtual 99, 3) := by decide +kernel
theorem dX11_wordOf_28 : decode cX11_wordOf 28 = .ok (.iload_n 1, 1) := by decide +kernel
theorem dX11_wordOf_29 : decode cX11_wordOf 29 = .ok (.if_icmp .ne 7, 3) := by decide +kernel
theorem dX11_wordOf_32 : decode cX11_wordOf 32 = .ok (.iconst 1, 1) := by decide +kernel
theorem dX11_wordOf_33 : decode cX11_wordOf 33 = .ok (.goto 4, 3) := by decide +kernel
theorem dX11_wordOf_36 : decode cX11_wordOf 36 = .ok (.iconst 0, 1) := by decide +kernel
theorem dX11_wordOf_37 : decode cX11_wordOf 37 = .ok (.istore 4, 2) := by decide +kernel
theorem dX11_wordOf_39 : decode cX11_wordOf 39 = .ok (.iload 4, 2) := by decide +kernel
theorem dX11_wordOf_41 : decode cX11_wordOf 41 = .ok (.ifCond .eq 29, 3) := by decide +kernel
theorem dX11_wordOf_44 : decode cX11_wordOf 44 = .ok (.iload_n 2, 1) := by decide +kernel
theorem dX11_wordOf_45 : decode cX11_wordOf 45 = .ok (.bipush (-4), 2) := by decide +kernel
theorem dX11_wordOf_47 : decode cX11_wordOf 47 = .ok (.if_icmp .eq 19, 3) := by decide +kernel
theorem dX11_wordOf_50 : decode cX11_wordOf 50 = .ok (.aload_n 0, 1) := by decide +kernel
theorem dX11_wordOf_51 : decode cX11_wordOf 51 = .ok (.iload_n 3, 1) := by decide +kernel
theorem dX11_wordOf_52 : decode cX11_wordOf 52 = .ok (.iconst 0, 1) := by decide +kernel
theorem dX11_wordOf_53 : decode cX11_wordOf 53 = .ok (.invokevirtual 134, 3) := by decide +kernel
theorem dX11_wordOf_56 : decode cX11_wordOf 56 = .ok (.aload_n 0, 1) := by decide +kernel
theorem dX11_wordOf_57 : decode cX11_wordOf 57 = .ok (.iload_n 2, 1) := by decide +kernel
theorem dX11_wordOf_58 : decode cX11_wordOf 58 = .ok (.iconst 0, 1) := by decide +kernel
theorem dX11_wordOf_59 : decode cX11_wordOf 59 = .ok (.invokevirtual 134, 3) := by decide +kernel
theorem dX11_wordOf_62 : decode cX11_wordOf 62 = .ok (.lcmp, 1) := by decide +kernel
theorem dX11_wordOf_63 : decode cX11_wordOf 63 = .ok (.ifCond .ge 7, 3) := by decide +kernel
theorem dX11_wordOf_66 : decode cX11_wordOf 66 = .ok (.iload_n 3, 1) := by decide +kernel
theorem dX11_wordOf_67 : decode cX11_wordOf 67 = .ok (.goto 4, 3) := by decide +kernel
theorem dX11_wordOf_70 : decode cX11_wordOf 70 = .ok (.iload_n 2, 1) := by decide +kernel
theorem dX11_wordOf_71 : decode cX11_wordOf 71 = .ok (.istore_n 2, 1) := by decide +kernel
theorem dX11_wordOf_72 : decode cX11_wordOf 72 = .ok (.iinc 3 1, 3) := by decide +kernel
theorem dX11_wordOf_75 : decode cX11_wordOf 75 = .ok (.goto (-70), 3) := by decide +kernel
theorem dX11_wordOf_78 : decode cX11_wordOf 78 = .ok (.iload_n 2, 1) := by decide +kernel
theorem dX11_wordOf_79 : decode cX11_wordOf 79 = .ok (.ireturn, 1) := by decide +kernel
theorem dX11_goesOn_0 : decode cX11_goesOn 0 = .ok (.aload_n 0, 1) := by decide +kernel
theorem dX11_goesOn_1 : decode cX11_goesOn 1 = .ok (.getfield 61, 3) := by decide +kernel
theorem dX11_goesOn_4 : decode cX11_goesOn 4 = .ok (.bipush (-4), 2) := by decide +kernel
theorem dX11_goesOn_6 : decode cX11_goesOn 6 = .ok (.if_icmp .ne 10, 3) := by decide +kernel
theorem dX11_goesOn_9 : decode cX11_goesOn 9 = .ok (.aload_n 0, 1) := by decide +kernel
theorem dX11_goesOn_10 : decode cX11_goesOn 10 = .ok (.invokevirtual 205, 3) := by decide +kernel
theorem dX11_goesOn_13 : decode cX11_goesOn 13 = .ok (.goto 5, 3) := by decide +kernel
theorem dX11_goesOn_16 : decode cX11_goesOn 16 = .ok (.bipush (-4), 2) := by decide +kernel
theorem dX11_goesOn_18 : decode cX11_goesOn 18 = .ok (.istore_n 1, 1) := by decide +kernel
theorem dX11_goesOn_19 : decode cX11_goesOn 19 = .ok (.iload_n 1, 1) := by decide +kernel
theorem dX11_goesOn_20 : decode cX11_goesOn 20 = .ok (.bipush (-4), 2) := by decide +kernel
theorem dX11_goesOn_22 : decode cX11_goesOn 22 = .ok (.if_icmp .eq 74, 3) := by decide +kernel
theorem dX11_goesOn_25 : decode cX11_goesOn 25 = .ok (.aload_n 0, 1) := by decide +kernel
theorem dX11_goesOn_26 : decode cX11_goesOn 26 = .ok (.aload_n 0, 1) := by decide +kernel
theorem dX11_goesOn_27 : decode cX11_goesOn 27 = .ok (.aload_n 0, 1) := by decide +kernel
theorem dX11_goesOn_28 : decode cX11_goesOn 28 = .ok (.iload_n 1, 1) := by decide +kernel
theorem dX11_goesOn_29 : decode cX11_goesOn 29 = .ok (.bipush 8, 2) := by decide +kernel
theorem dX11_goesOn_31 : decode cX11_goesOn 31 = .ok (.invokevirtual 99, 3) := by decide +kernel
theorem dX11_goesOn_34 : decode cX11_goesOn 34 = .ok (.invokevirtual 208, 3) := by decide +kernel
theorem dX11_goesOn_37 : decode cX11_goesOn 37 = .ok (.putfield 61, 3) := by decide +kernel
theorem dX11_goesOn_40 : decode cX11_goesOn 40 = .ok (.aload_n 0, 1) := by decide +kernel
theorem dX11_goesOn_41 : decode cX11_goesOn 41 = .ok (.iload_n 1, 1) := by decide +kernel
theorem dX11_goesOn_42 : decode cX11_goesOn 42 = .ok (.bipush 12, 2) := by decide +kernel
theorem dX11_goesOn_44 : decode cX11_goesOn 44 = .ok (.iconst 0, 1) := by decide +kernel
theorem dX11_goesOn_45 : decode cX11_goesOn 45 = .ok (.invokevirtual 114, 3) := by decide +kernel
theorem dX11_goesOn_48 : decode cX11_goesOn 48 = .ok (.aload_n 0, 1) := by decide +kernel
theorem dX11_goesOn_49 : decode cX11_goesOn 49 = .ok (.aload_n 0, 1) := by decide +kernel
theorem dX11_goesOn_50 : decode cX11_goesOn 50 = .ok (.getfield 61, 3) := by decide +kernel
theorem dX11_goesOn_53 : decode cX11_goesOn 53 = .ok (.bipush 9, 2) := by decide +kernel
theorem dX11_goesOn_55 : decode cX11_goesOn 55 = .ok (.iconst 1, 1) := by decide +kernel
theorem dX11_goesOn_56 : decode cX11_goesOn 56 = .ok (.invokevirtual 114, 3) := by decide +kernel
theorem dX11_goesOn_59 : decode cX11_goesOn 59 = .ok (.aload_n 0, 1) := by decide +kernel
theorem dX11_goesOn_60 : decode cX11_goesOn 60 = .ok (.aload_n 0, 1) := by decide +kernel
theorem dX11_goesOn_61 : decode cX11_goesOn 61 = .ok (.getfield 61, 3) := by decide +kernel
theorem dX11_goesOn_64 : decode cX11_goesOn 64 = .ok (.bipush 10, 2) := by decide +kernel
theorem dX11_goesOn_66 : decode cX11_goesOn 66 = .ok (.aload_n 0, 1) := by decide +kernel
theorem dX11_goesOn_67 : decode cX11_goesOn 67 = .ok (.getfield 111, 3) := by decide +kernel
theorem dX11_goesOn_70 : decode cX11_goesOn 70 = .ok (.invokevirtual 114, 3) := by decide +kernel
theorem dX11_goesOn_73 : decode cX11_goesOn 73 = .ok (.aload_n 0, 1) := by decide +kernel
theorem dX11_goesOn_74 : decode cX11_goesOn 74 = .ok (.getfield 28, 3) := by decide +kernel
theorem dX11_goesOn_77 : decode cX11_goesOn 77 = .ok (.aload_n 0, 1) := by decide +kernel
theorem dX11_goesOn_78 : decode cX11_goesOn 78 = .ok (.getfield 211, 3) := by decide +kernel
theorem dX11_goesOn_81 : decode cX11_goesOn 81 = .ok (.aload_n 0, 1) := by decide +kernel
theorem dX11_goesOn_82 : decode cX11_goesOn 82 = .ok (.getfield 61, 3) := by decide +kernel
theorem dX11_goesOn_85 : decode cX11_goesOn 85 = .ok (.iastore, 1) := by decide +kernel
theorem dX11_goesOn_86 : decode cX11_goesOn 86 = .ok (.aload_n 0, 1) := by decide +kernel
theorem dX11_goesOn_87 : decode cX11_goesOn 87 = .ok (.dup, 1) := by decide +kernel
theorem dX11_goesOn_88 : decode cX11_goesOn 88 = .ok (.getfield 211, 3) := by decide +kernel
theorem dX11_goesOn_91 : decode cX11_goesOn 91 = .ok (.iconst 1, 1) := by decide +kernel
theorem dX11_goesOn_92 : decode cX11_goesOn 92 = .ok (.iadd, 1) := by decide +kernel
theorem dX11_goesOn_93 : decode cX11_goesOn 93 = .ok (.putfield 211, 3) := by decide +kernel
theorem dX11_goesOn_96 : decode cX11_goesOn 96 = .ok (.aload_n 0, 1) := by decide +kernel
theorem dX11_goesOn_97 : decode cX11_goesOn 97 = .ok (.dup, 1) := by decide +kernel
theorem dX11_goesOn_98 : decode cX11_goesOn 98 = .ok (.getfield 111, 3) := by decide +kernel
theorem dX11_goesOn_101 : decode cX11_goesOn 101 = .ok (.iconst 1, 1) := by decide +kernel
theorem dX11_goesOn_102 : decode cX11_goesOn 102 = .ok (.iadd, 1) := by decide +kernel
theorem dX11_goesOn_103 : decode cX11_goesOn 103 = .ok (.putfield 111, 3) := by decide +kernel
theorem dX11_goesOn_106 : decode cX11_goesOn 106 = .ok (.aload_n 0, 1) := by decide +kernel
theorem dX11_goesOn_107 : decode cX11_goesOn 107 = .ok (.getfield 61, 3) := by decide +kernel
theorem dX11_goesOn_110 : decode cX11_goesOn 110 = .ok (.bipush (-4), 2) := by decide +kernel
theorem dX11_goesOn_112 : decode cX11_goesOn 112 = .ok (.if_icmp .eq 101, 3) := by decide +kernel
theorem dX11_goesOn_115 : decode cX11_goesOn 115 = .ok (.aload_n 0, 1) := by decide +kernel
theorem dX11_goesOn_116 : decode cX11_goesOn 116 = .ok (.aload_n 0, 1) := by decide +kernel
theorem dX11_goesOn_117 : decode cX11_goesOn 117 = .ok (.getfield 61, 3) := by decide +kernel
theorem dX11_goesOn_120 : decode cX11_goesOn 120 = .ok (.bipush 10, 2) := by decide +kernel
theorem dX11_goesOn_122 : decode cX11_goesOn 122 = .ok (.invokevirtual 99, 3) := by decide +kernel
theorem dX11_goesOn_125 : decode cX11_goesOn 125 = .ok (.aload_n 0, 1) := by decide +kernel
theorem dX11_goesOn_126 : decode cX11_goesOn 126 = .ok (.aload_n 0, 1) := by decide +kernel
theorem dX11_goesOn_127 : decode cX11_goesOn 127 = .ok (.getfield 61, 3) := by decide +kernel
theorem dX11_goesOn_130 : decode cX11_goesOn 130 = .ok (.iconst 1, 1) := by decide +kernel
theorem dX11_goesOn_131 : decode cX11_goesOn 131 = .ok (.invokevirtual 99, 3) := by decide +kernel
theorem dX11_goesOn_134 : decode cX11_goesOn 134 = .ok (.iadd, 1) := by decide +kernel
theorem dX11_goesOn_135 : decode cX11_goesOn 135 = .ok (.aload_n 0, 1) := by decide +kernel
theorem dX11_goesOn_136 : decode cX11_goesOn 136 = .ok (.getfield 111, 3) := by decide +kernel
theorem dX11_goesOn_139 : decode cX11_goesOn 139 = .ok (.if_icmp .ne 74, 3) := by decide +kernel
theorem dX11_goesOn_142 : decode cX11_goesOn 142 = .ok (.aload_n 0, 1) := by decide +kernel
theorem dX11_goesOn_143 : decode cX11_goesOn 143 = .ok (.aload_n 0, 1) := by decide +kernel
theorem dX11_goesOn_144 : decode cX11_goesOn 144 = .ok (.getfield 61, 3) := by decide +kernel
theorem dX11_goesOn_147 : decode cX11_goesOn 147 = .ok (.bipush 9, 2) := by decide +kernel
theorem dX11_goesOn_149 : decode cX11_goesOn 149 = .ok (.iconst 2, 1) := by decide +kernel
theorem dX11_goesOn_150 : decode cX11_goesOn 150 = .ok (.invokevirtual 114, 3) := by decide +kernel
theorem dX11_goesOn_153 : decode cX11_goesOn 153 = .ok (.aload_n 0, 1) := by decide +kernel
theorem dX11_goesOn_154 : decode cX11_goesOn 154 = .ok (.aload_n 0, 1) := by decide +kernel
theorem dX11_goesOn_155 : decode cX11_goesOn 155 = .ok (.getfield 61, 3) := by decide +kernel
theorem dX11_goesOn_158 : decode cX11_goesOn 158 = .ok (.bipush 11, 2) := by decide +kernel
theorem dX11_goesOn_160 : decode cX11_goesOn 160 = .ok (.aload_n 0, 1) := by decide +kernel
theorem dX11_goesOn_161 : decode cX11_goesOn 161 = .ok (.getfield 111, 3) := by decide +kernel
theorem dX11_goesOn_164 : decode cX11_goesOn 164 = .ok (.invokevirtual 114, 3) := by decide +kernel
theorem dX11_goesOn_167 : decode cX11_goesOn 167 = .ok (.aload_n 0, 1) := by decide +kernel
theorem dX11_goesOn_168 : decode cX11_goesOn 168 = .ok (.aload_n 0, 1) := by decide +kernel
theorem dX11_goesOn_169 : decode cX11_goesOn 169 = .ok (.aload_n 0, 1) := by decide +kernel
theorem dX11_goesOn_170 : decode cX11_goesOn 170 = .ok (.getfield 61, 3) := by decide +kernel
theorem dX11_goesOn_173 : decode cX11_goesOn 173 = .ok (.iconst 5, 1) := by decide +kernel
theorem dX11_goesOn_174 : decode cX11_goesOn 174 = .ok (.invokevirtual 99, 3) := by decide +kernel
theorem dX11_goesOn_177 : decode cX11_goesOn 177 = .ok (.putfield 108, 3) := by decide +kernel
theorem dX11_goesOn_180 : decode cX11_goesOn 180 = .ok (.aload_n 0, 1) := by decide +kernel
theorem dX11_goesOn_181 : decode cX11_goesOn 181 = .ok (.getfield 22, 3) := by decide +kernel
theorem dX11_goesOn_184 : decode cX11_goesOn 184 = .ok (.aload_n 0, 1) := by decide +kernel
theorem dX11_goesOn_185 : decode cX11_goesOn 185 = .ok (.aload_n 0, 1) := by decide +kernel
theorem dX11_goesOn_186 : decode cX11_goesOn 186 = .ok (.getfield 61, 3) := by decide +kernel
theorem dX11_goesOn_189 : decode cX11_goesOn 189 = .ok (.bipush 6, 2) := by decide +kernel
theorem dX11_goesOn_191 : decode cX11_goesOn 191 = .ok (.invokevirtual 99, 3) := by decide +kernel
theorem dX11_goesOn_194 : decode cX11_goesOn 194 = .ok (.dup2, 1) := by decide +kernel
theorem dX11_goesOn_195 : decode cX11_goesOn 195 = .ok (.iaload, 1) := by decide +kernel
theorem dX11_goesOn_196 : decode cX11_goesOn 196 = .ok (.aload_n 0, 1) := by decide +kernel
theorem dX11_goesOn_197 : decode cX11_goesOn 197 = .ok (.aload_n 0, 1) := by decide +kernel
theorem dX11_goesOn_198 : decode cX11_goesOn 198 = .ok (.getfield 61, 3) := by decide +kernel
theorem dX11_goesOn_201 : decode cX11_goesOn 201 = .ok (.iconst 1, 1) := by decide +kernel
theorem dX11_goesOn_202 : decode cX11_goesOn 202 = .ok (.invokevirtual 99, 3) := by decide +kernel
theorem dX11_goesOn_205 : decode cX11_goesOn 205 = .ok (.iadd, 1) := by decide +kernel
theorem dX11_goesOn_206 : decode cX11_goesOn 206 = .ok (.iastore, 1) := by decide +kernel
theorem dX11_goesOn_207 : decode cX11_goesOn 207 = .ok (.aload_n 0, 1) := by decide +kernel
theorem dX11_goesOn_208 : decode cX11_goesOn 208 = .ok (.bipush (-4), 2) := by decide +kernel
theorem dX11_goesOn_210 : decode cX11_goesOn 210 = .ok (.putfield 61, 3) := by decide +kernel
theorem dX11_goesOn_213 : decode cX11_goesOn 213 = .ok (.return_, 1) := by decide +kernel
theorem dX11_ticks_0 : decode cX11_ticks 0 = .ok (.iload_n 1, 1) := by decide +kernel
theorem dX11_ticks_1 : decode cX11_ticks 1 = .ok (.i2l, 1) := by decide +kernel
theorem dX11_ticks_2 : decode cX11_ticks 2 = .ok (.lconst 1, 1) := by decide +kernel
theorem dX11_ticks_3 : decode cX11_ticks 3 = .ok (.ldc2_w 214, 3) := by decide +kernel
theorem dX11_ticks_6 : decode cX11_ticks 6 = .ok (.invokestatic 70, 3) := by decide +kernel
theorem dX11_ticks_9 : decode cX11_ticks 9 = .ok (.ifCond .ne 5, 3) := by decide +kernel
theorem dX11_ticks_12 : decode cX11_ticks 12 = .ok (.iconst (-1), 1) := by decide +kernel
theorem dX11_ticks_13 : decode cX11_ticks 13 = .ok (.ireturn, 1) := by decide +kernel
theorem dX11_ticks_14 : decode cX11_ticks 14 = .ok (.aload_n 0, 1) := by decide +kernel
theorem dX11_ticks_15 : decode cX11_ticks 15 = .ok (.getfield 111, 3) := by decide +kernel
theorem dX11_ticks_18 : decode cX11_ticks 18 = .ok (.iload_n 1, 1) := by decide +kernel
theorem dX11_ticks_19 : decode cX11_ticks 19 = .ok (.iadd, 1) := by decide +kernel
theorem dX11_ticks_20 : decode cX11_ticks 20 = .ok (.ldc 216, 2) := by decide +kernel
theorem dX11_ticks_22 : decode cX11_ticks 22 = .ok (.if_icmp .le 6, 3) := by decide +kernel
theorem dX11_ticks_25 : decode cX11_ticks 25 = .ok (.bipush (-3), 2) := by decide +kernel
theorem dX11_ticks_27 : decode cX11_ticks 27 = .ok (.ireturn, 1) := by decide +kernel
theorem dX11_ticks_28 : decode cX11_ticks 28 = .ok (.iconst 0, 1) := by decide +kernel
theorem dX11_ticks_29 : decode cX11_ticks 29 = .ok (.istore_n 2, 1) := by decide +kernel
theorem dX11_ticks_30 : decode cX11_ticks 30 = .ok (.iload_n 2, 1) := by decide +kernel
theorem dX11_ticks_31 : decode cX11_ticks 31 = .ok (.iload_n 1, 1) := by decide +kernel
theorem dX11_ticks_32 : decode cX11_ticks 32 = .ok (.if_icmp .ge 13, 3) := by decide +kernel
theorem dX11_ticks_35 : decode cX11_ticks 35 = .ok (.aload_n 0, 1) := by decide +kernel
theorem dX11_ticks_36 : decode cX11_ticks 36 = .ok (.invokevirtual 217, 3) := by decide +kernel
theorem dX11_ticks_39 : decode cX11_ticks 39 = .ok (.iinc 2 1, 3) := by decide +kernel
theorem dX11_ticks_42 : decode cX11_ticks 42 = .ok (.goto (-12), 3) := by decide +kernel
theorem dX11_ticks_45 : decode cX11_ticks 45 = .ok (.aload_n 0, 1) := by decide +kernel
theorem dX11_ticks_46 : decode cX11_ticks 46 = .ok (.getfield 111, 3) := by decide +kernel
theorem dX11_ticks_49 : decode cX11_ticks 49 = .ok (.ireturn, 1) := by decide +kernel
theorem dX11_next_0 : decode cX11_next 0 = .ok (.aload_n 0, 1) := by decide +kernel
theorem dX11_next_1 : decode cX11_next 1 = .ok (.invokevirtual 205, 3) := by decide +kernel
theorem dX11_next_4 : decode cX11_next 4 = .ok (.istore_n 1, 1) := by decide +kernel
theorem dX11_next_5 : decode cX11_next 5 = .ok (.iload_n 1, 1) := by decide +kernel
theorem dX11_next_6 : decode cX11_next 6 = .ok (.bipush (-4), 2) := by decide +kernel
theorem dX11_next_8 : decode cX11_next 8 = .ok (.if_icmp .ne 8, 3) := by decide +kernel
theorem dX11_next_11 : decode cX11_next 11 = .ok (.bipush (-4), 2) := by decide +kernel
theorem dX11_next_13 : decode cX11_next 13 = .ok (.goto 14, 3) := by decide +kernel
theorem dX11_next_16 : decode cX11_next 16 = .ok (.aload_n 0, 1) := by decide +kernel
theorem dX11_next_17 : decode cX11_next 17 = .ok (.aload_n 0, 1) := by decide +kernel
theorem dX11_next_18 : decode cX11_next 18 = .ok (.iload_n 1, 1) := by decide +kernel
theorem dX11_next_19 : decode cX11_next 19 = .ok (.bipush 8, 2) := by decide +kernel
theorem dX11_next_21 : decode cX11_next 21 = .ok (.invokevirtual 99, 3) := by decide +kernel
theorem dX11_next_24 : decode cX11_next 24 = .ok (.invokevirtual 208, 3) := by decide +kernel
theorem dX11_next_27 : decode cX11_next 27 = .ok (.ireturn, 1) := by decide +kernel
theorem dX11_howMany_0 : decode cX11_howMany 0 = .ok (.iconst 0, 1) := by decide +kernel
theorem dX11_howMany_1 : decode cX11_howMany 1 = .ok (.istore_n 2, 1) := by decide +kernel
theorem dX11_howMany_2 : decode cX11_howMany 2 = .ok (.iconst 0, 1) := by decide +kernel
theorem dX11_howMany_3 : decode cX11_howMany 3 = .ok (.istore_n 3, 1) := by decide +kernel
theorem dX11_howMany_4 : decode cX11_howMany 4 = .ok (.iload_n 3, 1) := by decide +kernel
theorem dX11_howMany_5 : decode cX11_howMany 5 = .ok (.aload_n 0, 1) := by decide +kernel
theorem dX11_howMany_6 : decode cX11_howMany 6 = .ok (.getfield 96, 3) := by decide +kernel
theorem dX11_howMany_9 : decode cX11_howMany 9 = .ok (.if_icmp .ge 28, 3) := by decide +kernel
theorem dX11_howMany_12 : decode cX11_howMany 12 = .ok (.iload_n 2, 1) := by decide +kernel
theorem dX11_howMany_13 : decode cX11_howMany 13 = .ok (.aload_n 0, 1) := by decide +kernel
theorem dX11_howMany_14 : decode cX11_howMany 14 = .ok (.iload_n 3, 1) := by decide +kernel
theorem dX11_howMany_15 : decode cX11_howMany 15 = .ok (.bipush 9, 2) := by decide +kernel
theorem dX11_howMany_17 : decode cX11_howMany 17 = .ok (.invokevirtual 99, 3) := by decide +kernel
theorem dX11_howMany_20 : decode cX11_howMany 20 = .ok (.iload_n 1, 1) := by decide +kernel
theorem dX11_howMany_21 : decode cX11_howMany 21 = .ok (.if_icmp .ne 7, 3) := by decide +kernel
theorem dX11_howMany_24 : decode cX11_howMany 24 = .ok (.iconst 1, 1) := by decide +kernel
theorem dX11_howMany_25 : decode cX11_howMany 25 = .ok (.goto 4, 3) := by decide +kernel
theorem dX11_howMany_28 : decode cX11_howMany 28 = .ok (.iconst 0, 1) := by decide +kernel
theorem dX11_howMany_29 : decode cX11_howMany 29 = .ok (.iadd, 1) := by decide +kernel
theorem dX11_howMany_30 : decode cX11_howMany 30 = .ok (.istore_n 2, 1) := by decide +kernel
theorem dX11_howMany_31 : decode cX11_howMany 31 = .ok (.iinc 3 1, 3) := by decide +kernel
theorem dX11_howMany_34 : decode cX11_howMany 34 = .ok (.goto (-30), 3) := by decide +kernel
theorem dX11_howMany_37 : decode cX11_howMany 37 = .ok (.iload_n 2, 1) := by decide +kernel
theorem dX11_howMany_38 : decode cX11_howMany 38 = .ok (.ireturn, 1) := by decide +kernel
theorem dX11_opens_0 : decode cX11_opens 0 = .ok (.iconst 0, 1) := by decide +kernel
theorem dX11_opens_1 : decode cX11_opens 1 = .ok (.istore_n 1, 1) := by decide +kernel
theorem dX11_opens_2 : decode cX11_opens 2 = .ok (.iconst 0, 1) := by decide +kernel
theorem dX11_opens_3 : decode cX11_opens 3 = .ok (.istore_n 2, 1) := by decide +kernel
theorem dX11_opens_4 : decode cX11_opens 4 = .ok (.iload_n 2, 1) := by decide +kernel
theorem dX11_opens_5 : decode cX11_opens 5 = .ok (.aload_n 0, 1) := by decide +kernel
theorem dX11_opens_6 : decode cX11_opens 6 = .ok (.getfield 96, 3) := by decide +kernel
theorem dX11_opens_9 : decode cX11_opens 9 = .ok (.if_icmp .ge 25, 3) := by decide +kernel
theorem dX11_opens_12 : decode cX11_opens 12 = .ok (.iload_n 1, 1) := by decide +kernel
theorem dX11_opens_13 : decode cX11_opens 13 = .ok (.aload_n 0, 1) := by decide +kernel
theorem dX11_opens_14 : decode cX11_opens 14 = .ok (.iload_n 2, 1) := by decide +kernel
theorem dX11_opens_15 : decode cX11_opens 15 = .ok (.invokevirtual 199, 3) := by decide +kernel
theorem dX11_opens_18 : decode cX11_opens 18 = .ok (.ifCond .eq 7, 3) := by decide +kernel
theorem dX11_opens_21 : decode cX11_opens 21 = .ok (.iconst 1, 1) := by decide +kernel
theorem dX11_opens_22 : decode cX11_opens 22 = .ok (.goto 4, 3) := by decide +kernel
theorem dX11_opens_25 : decode cX11_opens 25 = .ok (.iconst 0, 1) := by decide +kernel
theorem dX11_opens_26 : decode cX11_opens 26 = .ok (.iadd, 1) := by decide +kernel
theorem dX11_opens_27 : decode cX11_opens 27 = .ok (.istore_n 1, 1) := by decide +kernel
theorem dX11_opens_28 : decode cX11_opens 28 = .ok (.iinc 2 1, 3) := by decide +kernel
theorem dX11_opens_31 : decode cX11_opens 31 = .ok (.goto (-27), 3) := by decide +kernel
theorem dX11_opens_34 : decode cX11_opens 34 = .ok (.iload_n 1, 1) := by decide +kernel
theorem dX11_opens_35 : decode cX11_opens 35 = .ok (.ireturn, 1) := by decide +kernel
theorem dX11_count_0 : decode cX11_count 0 = .ok (.iload_n 1, 1) := by decide +kernel
theorem dX11_count_1 : decode cX11_count 1 = .ok (.tableswitch 91 0 7 #[47, 52, 58, 64, 70, 76, 81, 86], 47) := by decide +kernel
theorem dX11_count_48 : decode cX11_count 48 = .ok (.aload_n 0, 1) := by decide +kernel
theorem dX11_count_49 : decode cX11_count 49 = .ok (.getfield 96, 3) := by decide +kernel
theorem dX11_count_52 : decode cX11_count 52 = .ok (.ireturn, 1) := by decide +kernel
theorem dX11_count_53 : decode cX11_count 53 = .ok (.aload_n 0, 1) := by decide +kernel
theorem dX11_count_54 : decode cX11_count 54 = .ok (.iconst 0, 1) := by decide +kernel
theorem dX11_count_55 : decode cX11_count 55 = .ok (.invokevirtual 220, 3) := by decide +kernel
theorem dX11_count_58 : decode cX11_count 58 = .ok (.ireturn, 1) := by decide +kernel
theorem dX11_count_59 : decode cX11_count 59 = .ok (.aload_n 0, 1) := by decide +kernel
theorem dX11_count_60 : decode cX11_count 60 = .ok (.iconst 1, 1) := by decide +kernel
theorem dX11_count_61 : decode cX11_count 61 = .ok (.invokevirtual 220, 3) := by decide +kernel
theorem dX11_count_64 : decode cX11_count 64 = .ok (.ireturn, 1) := by decide +kernel
theorem dX11_count_65 : decode cX11_count 65 = .ok (.aload_n 0, 1) := by decide +kernel
theorem dX11_count_66 : decode cX11_count 66 = .ok (.iconst 2, 1) := by decide +kernel
theorem dX11_count_67 : decode cX11_count 67 = .ok (.invokevirtual 220, 3) := by decide +kernel
theorem dX11_count_70 : decode cX11_count 70 = .ok (.ireturn, 1) := by decide +kernel
theorem dX11_count_71 : decode cX11_count 71 = .ok (.aload_n 0, 1) := by decide +kernel
theorem dX11_count_72 : decode cX11_count 72 = .ok (.iconst 3, 1) := by decide +kernel
theorem dX11_count_73 : decode cX11_count 73 = .ok (.invokevirtual 220, 3) := by decide +kernel
theorem dX11_count_76 : decode cX11_count 76 = .ok (.ireturn, 1) := by decide +kernel
theorem dX11_count_77 : decode cX11_count 77 = .ok (.aload_n 0, 1) := by decide +kernel
theorem dX11_count_78 : decode cX11_count 78 = .ok (.invokevirtual 223, 3) := by decide +kernel
theorem dX11_count_81 : decode cX11_count 81 = .ok (.ireturn, 1) := by decide +kernel
theorem dX11_count_82 : decode cX11_count 82 = .ok (.aload_n 0, 1) := by decide +kernel
theorem dX11_count_83 : decode cX11_count 83 = .ok (.getfield 111, 3) := by decide +kernel
theorem dX11_count_86 : decode cX11_count 86 = .ok (.ireturn, 1) := by decide +kernel
theorem dX11_count_87 : decode cX11_count 87 = .ok (.aload_n 0, 1) := by decide +kernel
theorem dX11_count_88 : decode cX11_count 88 = .ok (.getfield 108, 3) := by decide +kernel
theorem dX11_count_91 : decode cX11_count 91 = .ok (.ireturn, 1) := by decide +kernel
theorem dX11_count_92 : decode cX11_count 92 = .ok (.iconst (-1), 1) := by decide +kernel
theorem dX11_count_93 : decode cX11_count 93 = .ok (.ireturn, 1) := by decide +kernel
theorem dX11_sent_0 : decode cX11_sent 0 = .ok (.iload_n 1, 1) := by decide +kernel
theorem dX11_sent_1 : decode cX11_sent 1 = .ok (.ifCond .ge 7, 3) := by decide +kernel
theorem dX11_sent_4 : decode cX11_sent 4 = .ok (.iconst (-1), 1) := by decide +kernel
theorem dX11_sent_5 : decode cX11_sent 5 = .ok (.goto 22, 3) := by decide +kernel
theorem dX11_sent_8 : decode cX11_sent 8 = .ok (.iload_n 1, 1) := by decide +kernel
theorem dX11_sent_9 : decode cX11_sent 9 = .ok (.aload_n 0, 1) := by decide +kernel
theorem dX11_sent_10 : decode cX11_sent 10 = .ok (.getfield 211, 3) := by decide +kernel
theorem dX11_sent_13 : decode cX11_sent 13 = .ok (.if_icmp .ge 12, 3) := by decide +kernel
theorem dX11_sent_16 : decode cX11_sent 16 = .ok (.aload_n 0, 1) := by decide +kernel
theorem dX11_sent_17 : decode cX11_sent 17 = .ok (.getfield 28, 3) := by decide +kernel
theorem dX11_sent_20 : decode cX11_sent 20 = .ok (.iload_n 1, 1) := by decide +kernel
theorem dX11_sent_21 : decode cX11_sent 21 = .ok (.iaload, 1) := by decide +kernel
theorem dX11_sent_22 : decode cX11_sent 22 = .ok (.goto 5, 3) := by decide +kernel
theorem dX11_sent_25 : decode cX11_sent 25 = .ok (.bipush (-4), 2) := by decide +kernel
theorem dX11_sent_27 : decode cX11_sent 27 = .ok (.ireturn, 1) := by decide +kernel
theorem dX11_late_0 : decode cX11_late 0 = .ok (.aload_n 0, 1) := by decide +kernel
theorem dX11_late_1 : decode cX11_late 1 = .ok (.iload_n 1, 1) := by decide +kernel
theorem dX11_late_2 : decode cX11_late 2 = .ok (.invokevirtual 189, 3) := by decide +kernel
theorem dX11_late_5 : decode cX11_late 5 = .ok (.ifCond .ne 8, 3) := by decide +kernel
theorem dX11_late_8 : decode cX11_late 8 = .ok (.ldc 226, 2) := by decide +kernel
theorem dX11_late_10 : decode cX11_late 10 = .ok (.goto 33, 3) := by decide +kernel
theorem dX11_late_13 : decode cX11_late 13 = .ok (.aload_n 0, 1) := by decide +kernel
theorem dX11_late_14 : decode cX11_late 14 = .ok (.iload_n 1, 1) := by decide +kernel
theorem dX11_late_15 : decode cX11_late 15 = .ok (.bipush 9, 2) := by decide +kernel
theorem dX11_late_17 : decode cX11_late 17 = .ok (.invokevirtual 99, 3) := by decide +kernel
theorem dX11_late_20 : decode cX11_late 20 = .ok (.iconst 2, 1) := by decide +kernel
theorem dX11_late_21 : decode cX11_late 21 = .ok (.if_icmp .eq 8, 3) := by decide +kernel
theorem dX11_late_24 : decode cX11_late 24 = .ok (.ldc 227, 2) := by decide +kernel
theorem dX11_late_26 : decode cX11_late 26 = .ok (.goto 17, 3) := by decide +kernel
theorem dX11_late_29 : decode cX11_late 29 = .ok (.aload_n 0, 1) := by decide +kernel
theorem dX11_late_30 : decode cX11_late 30 = .ok (.iload_n 1, 1) := by decide +kernel
theorem dX11_late_31 : decode cX11_late 31 = .ok (.bipush 11, 2) := by decide +kernel
theorem dX11_late_33 : decode cX11_late 33 = .ok (.invokevirtual 99, 3) := by decide +kernel
theorem dX11_late_36 : decode cX11_late 36 = .ok (.aload_n 0, 1) := by decide +kernel
theorem dX11_late_37 : decode cX11_late 37 = .ok (.iload_n 1, 1) := by decide +kernel
theorem dX11_late_38 : decode cX11_late 38 = .ok (.iconst 3, 1) := by decide +kernel
theorem dX11_late_39 : decode cX11_late 39 = .ok (.invokevirtual 99, 3) := by decide +kernel
theorem dX11_late_42 : decode cX11_late 42 = .ok (.isub, 1) := by decide +kernel
theorem dX11_late_43 : decode cX11_late 43 = .ok (.ireturn, 1) := by decide +kernel
theorem dX11_behind_0 : decode cX11_behind 0 = .ok (.aload_n 0, 1) := by decide +kernel
theorem dX11_behind_1 : decode cX11_behind 1 = .ok (.iload_n 1, 1) := by decide +kernel
theorem dX11_behind_2 : decode cX11_behind 2 = .ok (.invokevirtual 189, 3) := by decide +kernel
theorem dX11_behind_5 : decode cX11_behind 5 = .ok (.ifCond .eq 8, 3) := by decide +kernel
theorem dX11_behind_8 : decode cX11_behind 8 = .ok (.iload_n 2, 1) := by decide +kernel
theorem dX11_behind_9 : decode cX11_behind 9 = .ok (.iconst (-1), 1) := by decide +kernel
theorem dX11_behind_10 : decode cX11_behind 10 = .ok (.if_icmp .ge 5, 3) := by decide +kernel
theorem dX11_behind_13 : decode cX11_behind 13 = .ok (.iconst (-1), 1) := by decide +kernel
theorem dX11_behind_14 : decode cX11_behind 14 = .ok (.ireturn, 1) := by decide +kernel
theorem dX11_behind_15 : decode cX11_behind 15 = .ok (.aload_n 0, 1) := by decide +kernel
theorem dX11_behind_16 : decode cX11_behind 16 = .ok (.iload_n 1, 1) := by decide +kernel
theorem dX11_behind_17 : decode cX11_behind 17 = .ok (.bipush 10, 2) := by decide +kernel
theorem dX11_behind_19 : decode cX11_behind 19 = .ok (.invokevirtual 99, 3) := by decide +kernel
theorem dX11_behind_22 : decode cX11_behind 22 = .ok (.bipush (-4), 2) := by decide +kernel
theorem dX11_behind_24 : decode cX11_behind 24 = .ok (.if_icmp .ne 6, 3) := by decide +kernel
theorem dX11_behind_27 : decode cX11_behind 27 = .ok (.bipush (-2), 2) := by decide +kernel
theorem dX11_behind_29 : decode cX11_behind 29 = .ok (.ireturn, 1) := by decide +kernel
theorem dX11_behind_30 : decode cX11_behind 30 = .ok (.iconst 0, 1) := by decide +kernel
theorem dX11_behind_31 : decode cX11_behind 31 = .ok (.istore_n 3, 1) := by decide +kernel
theorem dX11_behind_32 : decode cX11_behind 32 = .ok (.iconst 0, 1) := by decide +kernel
theorem dX11_behind_33 : decode cX11_behind 33 = .ok (.istore 4, 2) := by decide +kernel
theorem dX11_behind_35 : decode cX11_behind 35 = .ok (.aload_n 0, 1) := by decide +kernel
theorem dX11_behind_36 : decode cX11_behind 36 = .ok (.getfield 28, 3) := by decide +kernel
theorem dX11_behind_39 : decode cX11_behind 39 = .ok (.iload 4, 2) := by decide +kernel
theorem dX11_behind_41 : decode cX11_behind 41 = .ok (.iaload, 1) := by decide +kernel
theorem dX11_behind_42 : decode cX11_behind 42 = .ok (.iload_n 1, 1) := by decide +kernel
theorem dX11_behind_43 : decode cX11_behind 43 = .ok (.if_icmp .eq 36, 3) := by decide +kernel
theorem dX11_behind_46 : decode cX11_behind 46 = .ok (.aload_n 0, 1) := by decide +kernel
theorem dX11_behind_47 : decode cX11_behind 47 = .ok (.getfield 28, 3) := by decide +kernel
theorem dX11_behind_50 : decode cX11_behind 50 = .ok (.iload 4, 2) := by decide +kernel
theorem dX11_behind_52 : decode cX11_behind 52 = .ok (.iaload, 1) := by decide +kernel
theorem dX11_behind_53 : decode cX11_behind 53 = .ok (.iload_n 1, 1) := by decide +kernel
theorem dX11_behind_54 : decode cX11_behind 54 = .ok (.if_icmp .le 19, 3) := by decide +kernel
theorem dX11_behind_57 : decode cX11_behind 57 = .ok (.iload_n 3, 1) := by decide +kernel
theorem dX11_behind_58 : decode cX11_behind 58 = .ok (.iload_n 2, 1) := by decide +kernel
theorem dX11_behind_59 : decode cX11_behind 59 = .ok (.if_icmp .ne 11, 3) := by decide +kernel
theorem dX11_behind_62 : decode cX11_behind 62 = .ok (.aload_n 0, 1) := by decide +kernel
theorem dX11_behind_63 : decode cX11_behind 63 = .ok (.getfield 28, 3) := by decide +kernel
theorem dX11_behind_66 : decode cX11_behind 66 = .ok (.iload 4, 2) := by decide +kernel
theorem dX11_behind_68 : decode cX11_behind 68 = .ok (.iaload, 1) := by decide +kernel
theorem dX11_behind_69 : decode cX11_behind 69 = .ok (.ireturn, 1) := by decide +kernel
theorem dX11_behind_70 : decode cX11_behind 70 = .ok (.iinc 3 1, 3) := by decide +kernel
theorem dX11_behind_73 : decode cX11_behind 73 = .ok (.iinc 4 1, 3) := by decide +kernel
theorem dX11_behind_76 : decode cX11_behind 76 = .ok (.goto (-41), 3) := by decide +kernel
theorem dX11_behind_79 : decode cX11_behind 79 = .ok (.iload_n 2, 1) := by decide +kernel
theorem dX11_behind_80 : decode cX11_behind 80 = .ok (.iconst (-1), 1) := by decide +kernel
theorem dX11_behind_81 : decode cX11_behind 81 = .ok (.if_icmp .ne 7, 3) := by decide +kernel
theorem dX11_behind_84 : decode cX11_behind 84 = .ok (.iload_n 3, 1) := by decide +kernel
theorem dX11_behind_85 : decode cX11_behind 85 = .ok (.goto 5, 3) := by decide +kernel
theorem dX11_behind_88 : decode cX11_behind 88 = .ok (.bipush (-4), 2) := by decide +kernel
theorem dX11_behind_90 : decode cX11_behind 90 = .ok (.ireturn, 1) := by decide +kernel
theorem dX11_promise_0 : decode cX11_promise 0 = .ok (.iload_n 1, 1) := by decide +kernel
theorem dX11_promise_1 : decode cX11_promise 1 = .ok (.invokestatic 84, 3) := by decide +kernel
theorem dX11_promise_4 : decode cX11_promise 4 = .ok (.ifCond .eq 10, 3) := by decide +kernel
theorem dX11_promise_7 : decode cX11_promise 7 = .ok (.iload_n 2, 1) := by decide +kernel
theorem dX11_promise_8 : decode cX11_promise 8 = .ok (.invokestatic 102, 3) := by decide +kernel
theorem dX11_promise_11 : decode cX11_promise 11 = .ok (.ifCond .ne 5, 3) := by decide +kernel
theorem dX11_promise_14 : decode cX11_promise 14 = .ok (.iconst (-1), 1) := by decide +kernel
theorem dX11_promise_15 : decode cX11_promise 15 = .ok (.ireturn, 1) := by decide +kernel
theorem dX11_promise_16 : decode cX11_promise 16 = .ok (.iload_n 2, 1) := by decide +kernel
theorem dX11_promise_17 : decode cX11_promise 17 = .ok (.istore_n 3, 1) := by decide +kernel
theorem dX11_promise_18 : decode cX11_promise 18 = .ok (.iconst 0, 1) := by decide +kernel
theorem dX11_promise_19 : decode cX11_promise 19 = .ok (.istore 4, 2) := by decide +kernel
theorem dX11_promise_21 : decode cX11_promise 21 = .ok (.iconst 0, 1) := by decide +kernel
theorem dX11_promise_22 : decode cX11_promise 22 = .ok (.istore 5, 2) := by decide +kernel
theorem dX11_promise_24 : decode cX11_promise 24 = .ok (.iconst 0, 1) := by decide +kernel
theorem dX11_promise_25 : decode cX11_promise 25 = .ok (.istore 6, 2) := by decide +kernel
theorem dX11_promise_27 : decode cX11_promise 27 = .ok (.iload 6, 2) := by decide +kernel
theorem dX11_promise_29 : decode cX11_promise 29 = .ok (.bipush 8, 2) := by decide +kernel
theorem dX11_promise_31 : decode cX11_promise 31 = .ok (.if_icmp .ge 118, 3) := by decide +kernel
theorem dX11_promise_34 : decode cX11_promise 34 = .ok (.aload_n 0, 1) := by decide +kernel
theorem dX11_promise_35 : decode cX11_promise 35 = .ok (.iload 6, 2) := by decide +kernel
theorem dX11_promise_37 : decode cX11_promise 37 = .ok (.iconst 0, 1) := by decide +kernel
theorem dX11_promise_38 : decode cX11_promise 38 = .ok (.invokevirtual 92, 3) := by decide +kernel
theorem dX11_promise_41 : decode cX11_promise 41 = .ok (.aload_n 0, 1) := by decide +kernel
theorem dX11_promise_42 : decode cX11_promise 42 = .ok (.iload_n 1, 1) := by decide +kernel
theorem dX11_promise_43 : decode cX11_promise 43 = .ok (.iconst 0, 1) := by decide +kernel
theorem dX11_promise_44 : decode cX11_promise 44 = .ok (.invokevirtual 92, 3) := by decide +kernel
theorem dX11_promise_47 : decode cX11_promise 47 = .ok (.if_icmp .ge 7, 3) := by decide +kernel
theorem dX11_promise_50 : decode cX11_promise 50 = .ok (.iconst 1, 1) := by decide +kernel
theorem dX11_promise_51 : decode cX11_promise 51 = .ok (.goto 4, 3) := by decide +kernel
theorem dX11_promise_54 : decode cX11_promise 54 = .ok (.iconst 0, 1) := by decide +kernel
theorem dX11_promise_55 : decode cX11_promise 55 = .ok (.istore 7, 2) := by decide +kernel
theorem dX11_promise_57 : decode cX11_promise 57 = .ok (.aload_n 0, 1) := by decide +kernel
theorem dX11_promise_58 : decode cX11_promise 58 = .ok (.iload 6, 2) := by decide +kernel
theorem dX11_promise_60 : decode cX11_promise 60 = .ok (.iconst 0, 1) := by decide +kernel
theorem dX11_promise_61 : decode cX11_promise 61 = .ok (.invokevirtual 92, 3) := by decide +kernel
theorem dX11_promise_64 : decode cX11_promise 64 = .ok (.aload_n 0, 1) := by decide +kernel
theorem dX11_promise_65 : decode cX11_promise 65 = .ok (.iload_n 1, 1) := by decide +kernel
theorem dX11_promise_66 : decode cX11_promise 66 = .ok (.iconst 0, 1) := by decide +kernel
theorem dX11_promise_67 : decode cX11_promise 67 = .ok (.invokevirtual 92, 3) := by decide +kernel
theorem dX11_promise_70 : decode cX11_promise 70 = .ok (.if_icmp .gt 7, 3) := by decide +kernel
theorem dX11_promise_73 : decode cX11_promise 73 = .ok (.iconst 1, 1) := by decide +kernel
theorem dX11_promise_74 : decode cX11_promise 74 = .ok (.goto 4, 3) := by decide +kernel
theorem dX11_promise_77 : decode cX11_promise 77 = .ok (.iconst 0, 1) := by decide +kernel
theorem dX11_promise_78 : decode cX11_promise 78 = .ok (.istore 8, 2) := by decide +kernel
theorem dX11_promise_80 : decode cX11_promise 80 = .ok (.iload_n 3, 1) := by decide +kernel
theorem dX11_promise_81 : decode cX11_promise 81 = .ok (.iload 8, 2) := by decide +kernel
theorem dX11_promise_83 : decode cX11_promise 83 = .ok (.ifCond .eq 13, 3) := by decide +kernel
theorem dX11_promise_86 : decode cX11_promise 86 = .ok (.aload_n 0, 1) := by decide +kernel
theorem dX11_promise_87 : decode cX11_promise 87 = .ok (.iload 6, 2) := by decide +kernel
theorem dX11_promise_89 : decode cX11_promise 89 = .ok (.iconst 5, 1) := by decide +kernel
theorem dX11_promise_90 : decode cX11_promise 90 = .ok (.invokevirtual 92, 3) := by decide +kernel
theorem dX11_promise_93 : decode cX11_promise 93 = .ok (.goto 4, 3) := by decide +kernel
theorem dX11_promise_96 : decode cX11_promise 96 = .ok (.iconst 0, 1) := by decide +kernel
theorem dX11_promise_97 : decode cX11_promise 97 = .ok (.iadd, 1) := by decide +kernel
theorem dX11_promise_98 : decode cX11_promise 98 = .ok (.istore_n 3, 1) := by decide +kernel
theorem dX11_promise_99 : decode cX11_promise 99 = .ok (.iload 4, 2) := by decide +kernel
theorem dX11_promise_101 : decode cX11_promise 101 = .ok (.iload 7, 2) := by decide +kernel
theorem dX11_promise_103 : decode cX11_promise 103 = .ok (.ifCond .eq 14, 3) := by decide +kernel
theorem dX11_promise_106 : decode cX11_promise 106 = .ok (.aload_n 0, 1) := by decide +kernel
theorem dX11_promise_107 : decode cX11_promise 107 = .ok (.iload 6, 2) := by decide +kernel
theorem dX11_promise_109 : decode cX11_promise 109 = .ok (.bipush 6, 2) := by decide +kernel
theorem dX11_promise_111 : decode cX11_promise 111 = .ok (.invokevirtual 92, 3) := by decide +kernel
theorem dX11_promise_114 : decode cX11_promise 114 = .ok (.goto 4, 3) := by decide +kernel
theorem dX11_promise_117 : decode cX11_promise 117 = .ok (.iconst 0, 1) := by decide +kernel
theorem dX11_promise_118 : decode cX11_promise 118 = .ok (.iadd, 1) := by decide +kernel
theorem dX11_promise_119 : decode cX11_promise 119 = .ok (.istore 4, 2) := by decide +kernel
theorem dX11_promise_121 : decode cX11_promise 121 = .ok (.iload 5, 2) := by decide +kernel
theorem dX11_promise_123 : decode cX11_promise 123 = .ok (.iload 8, 2) := by decide +kernel
theorem dX11_promise_125 : decode cX11_promise 125 = .ok (.ifCond .eq 14, 3) := by decide +kernel
theorem dX11_promise_128 : decode cX11_promise 128 = .ok (.aload_n 0, 1) := by decide +kernel
theorem dX11_promise_129 : decode cX11_promise 129 = .ok (.iload 6, 2) := by decide +kernel
theorem dX11_promise_131 : decode cX11_promise 131 = .ok (.bipush 6, 2) := by decide +kernel
theorem dX11_promise_133 : decode cX11_promise 133 = .ok (.invokevirtual 92, 3) := by decide +kernel
theorem dX11_promise_136 : decode cX11_promise 136 = .ok (.goto 4, 3) := by decide +kernel
theorem dX11_promise_139 : decode cX11_promise 139 = .ok (.iconst 0, 1) := by decide +kernel
theorem dX11_promise_140 : decode cX11_promise 140 = .ok (.iadd, 1) := by decide +kernel
theorem dX11_promise_141 : decode cX11_promise 141 = .ok (.istore 5, 2) := by decide +kernel
theorem dX11_promise_143 : decode cX11_promise 143 = .ok (.iinc 6 1, 3) := by decide +kernel
theorem dX11_promise_146 : decode cX11_promise 146 = .ok (.goto (-119), 3) := by decide +kernel
theorem dX11_promise_149 : decode cX11_promise 149 = .ok (.iload 5, 2) := by decide +kernel
theorem dX11_promise_151 : decode cX11_promise 151 = .ok (.bipush 16, 2) := by decide +kernel
theorem dX11_promise_153 : decode cX11_promise 153 = .ok (.if_icmp .gt 10, 3) := by decide +kernel
theorem dX11_promise_156 : decode cX11_promise 156 = .ok (.iload 4, 2) := by decide +kernel
theorem dX11_promise_158 : decode cX11_promise 158 = .ok (.bipush 16, 2) := by decide +kernel
theorem dX11_promise_160 : decode cX11_promise 160 = .ok (.if_icmp .lt 6, 3) := by decide +kernel
theorem dX11_promise_163 : decode cX11_promise 163 = .ok (.bipush (-4), 2) := by decide +kernel
theorem dX11_promise_165 : decode cX11_promise 165 = .ok (.ireturn, 1) := by decide +kernel
theorem dX11_promise_166 : decode cX11_promise 166 = .ok (.bipush 16, 2) := by decide +kernel
theorem dX11_promise_168 : decode cX11_promise 168 = .ok (.iload_n 3, 1) := by decide +kernel
theorem dX11_promise_169 : decode cX11_promise 169 = .ok (.imul, 1) := by decide +kernel
theorem dX11_promise_170 : decode cX11_promise 170 = .ok (.bipush 15, 2) := by decide +kernel
theorem dX11_promise_172 : decode cX11_promise 172 = .ok (.iadd, 1) := by decide +kernel
theorem dX11_promise_173 : decode cX11_promise 173 = .ok (.iload 4, 2) := by decide +kernel
theorem dX11_promise_175 : decode cX11_promise 175 = .ok (.isub, 1) := by decide +kernel
theorem dX11_promise_176 : decode cX11_promise 176 = .ok (.bipush 16, 2) := by decide +kernel
theorem dX11_promise_178 : decode cX11_promise 178 = .ok (.iload 4, 2) := by decide +kernel
theorem dX11_promise_180 : decode cX11_promise 180 = .ok (.isub, 1) := by decide +kernel
theorem dX11_promise_181 : decode cX11_promise 181 = .ok (.idiv, 1) := by decide +kernel
theorem dX11_promise_182 : decode cX11_promise 182 = .ok (.ireturn, 1) := by decide +kernel
theorem dX11_taken_0 : decode cX11_taken 0 = .ok (.iload_n 1, 1) := by decide +kernel
theorem dX11_taken_1 : decode cX11_taken 1 = .ok (.invokestatic 84, 3) := by decide +kernel
theorem dX11_taken_4 : decode cX11_taken 4 = .ok (.ifCond .eq 12, 3) := by decide +kernel
theorem dX11_taken_7 : decode cX11_taken 7 = .ok (.aload_n 0, 1) := by decide +kernel
theorem dX11_taken_8 : decode cX11_taken 8 = .ok (.getfield 22, 3) := by decide +kernel
theorem dX11_taken_11 : decode cX11_taken 11 = .ok (.iload_n 1, 1) := by decide +kernel
theorem dX11_taken_12 : decode cX11_taken 12 = .ok (.iaload, 1) := by decide +kernel
theorem dX11_taken_13 : decode cX11_taken 13 = .ok (.goto 4, 3) := by decide +kernel
theorem dX11_taken_16 : decode cX11_taken 16 = .ok (.iconst (-1), 1) := by decide +kernel
theorem dX11_taken_17 : decode cX11_taken 17 = .ok (.ireturn, 1) := by decide +kernel
theorem dX11_isIn_0 : decode cX11_isIn 0 = .ok (.aload_n 0, 1) := by decide +kernel
theorem dX11_isIn_1 : decode cX11_isIn 1 = .ok (.getfield 22, 3) := by decide +kernel
theorem dX11_isIn_4 : decode cX11_isIn 4 = .ok (.iload_n 1, 1) := by decide +kernel
theorem dX11_isIn_5 : decode cX11_isIn 5 = .ok (.iaload, 1) := by decide +kernel
theorem dX11_isIn_6 : decode cX11_isIn 6 = .ok (.ifCond .le 7, 3) := by decide +kernel
theorem dX11_isIn_9 : decode cX11_isIn 9 = .ok (.iconst 1, 1) := by decide +kernel
theorem dX11_isIn_10 : decode cX11_isIn 10 = .ok (.goto 4, 3) := by decide +kernel
theorem dX11_isIn_13 : decode cX11_isIn 13 = .ok (.iconst 0, 1) := by decide +kernel
theorem dX11_isIn_14 : decode cX11_isIn 14 = .ok (.istore_n 2, 1) := by decide +kernel
theorem dX11_isIn_15 : decode cX11_isIn 15 = .ok (.iconst 0, 1) := by decide +kernel
theorem dX11_isIn_16 : decode cX11_isIn 16 = .ok (.istore_n 3, 1) := by decide +kernel
theorem dX11_isIn_17 : decode cX11_isIn 17 = .ok (.iload_n 3, 1) := by decide +kernel
theorem dX11_isIn_18 : decode cX11_isIn 18 = .ok (.aload_n 0, 1) := by decide +kernel
theorem dX11_isIn_19 : decode cX11_isIn 19 = .ok (.getfield 96, 3) := by decide +kernel
theorem dX11_isIn_22 : decode cX11_isIn 22 = .ok (.if_icmp .ge 40, 3) := by decide +kernel
theorem dX11_isIn_25 : decode cX11_isIn 25 = .ok (.iload_n 2, 1) := by decide +kernel
theorem dX11_isIn_26 : decode cX11_isIn 26 = .ok (.ifCond .ne 36, 3) := by decide +kernel
theorem dX11_isIn_29 : decode cX11_isIn 29 = .ok (.aload_n 0, 1) := by decide +kernel
theorem dX11_isIn_30 : decode cX11_isIn 30 = .ok (.iload_n 3, 1) := by decide +kernel
theorem dX11_isIn_31 : decode cX11_isIn 31 = .ok (.bipush 9, 2) := by decide +kernel
theorem dX11_isIn_33 : decode cX11_isIn 33 = .ok (.invokevirtual 99, 3) := by decide +kernel
theorem dX11_isIn_36 : decode cX11_isIn 36 = .ok (.ifCond .ne 18, 3) := by decide +kernel
theorem dX11_isIn_39 : decode cX11_isIn 39 = .ok (.aload_n 0, 1) := by decide +kernel
theorem dX11_isIn_40 : decode cX11_isIn 40 = .ok (.iload_n 3, 1) := by decide +kernel
theorem dX11_isIn_41 : decode cX11_isIn 41 = .ok (.bipush 6, 2) := by decide +kernel
theorem dX11_isIn_43 : decode cX11_isIn 43 = .ok (.invokevirtual 99, 3) := by decide +kernel
theorem dX11_isIn_46 : decode cX11_isIn 46 = .ok (.iload_n 1, 1) := by decide +kernel
theorem dX11_isIn_47 : decode cX11_isIn 47 = .ok (.if_icmp .ne 7, 3) := by decide +kernel
theorem dX11_isIn_50 : decode cX11_isIn 50 = .ok (.iconst 1, 1) := by decide +kernel
theorem dX11_isIn_51 : decode cX11_isIn 51 = .ok (.goto 4, 3) := by decide +kernel
theorem dX11_isIn_54 : decode cX11_isIn 54 = .ok (.iconst 0, 1) := by decide +kernel
theorem dX11_isIn_55 : decode cX11_isIn 55 = .ok (.istore_n 2, 1) := by decide +kernel
theorem dX11_isIn_56 : decode cX11_isIn 56 = .ok (.iinc 3 1, 3) := by decide +kernel
theorem dX11_isIn_59 : decode cX11_isIn 59 = .ok (.goto (-42), 3) := by decide +kernel
theorem dX11_isIn_62 : decode cX11_isIn 62 = .ok (.iload_n 2, 1) := by decide +kernel
theorem dX11_isIn_63 : decode cX11_isIn 63 = .ok (.ireturn, 1) := by decide +kernel
theorem dX11_lags_0 : decode cX11_lags 0 = .ok (.iload_n 1, 1) := by decide +kernel
theorem dX11_lags_1 : decode cX11_lags 1 = .ok (.invokestatic 84, 3) := by decide +kernel
theorem dX11_lags_4 : decode cX11_lags 4 = .ok (.ifCond .ne 6, 3) := by decide +kernel
theorem dX11_lags_7 : decode cX11_lags 7 = .ok (.ldc 226, 2) := by decide +kernel
theorem dX11_lags_9 : decode cX11_lags 9 = .ok (.ireturn, 1) := by decide +kernel
theorem dX11_lags_10 : decode cX11_lags 10 = .ok (.aload_n 0, 1) := by decide +kernel
theorem dX11_lags_11 : decode cX11_lags 11 = .ok (.iload_n 1, 1) := by decide +kernel
theorem dX11_lags_12 : decode cX11_lags 12 = .ok (.invokevirtual 228, 3) := by decide +kernel
theorem dX11_lags_15 : decode cX11_lags 15 = .ok (.ifCond .ne 6, 3) := by decide +kernel
theorem dX11_lags_18 : decode cX11_lags 18 = .ok (.ldc 227, 2) := by decide +kernel
theorem dX11_lags_20 : decode cX11_lags 20 = .ok (.ireturn, 1) := by decide +kernel
theorem dX11_lags_21 : decode cX11_lags 21 = .ok (.iconst 0, 1) := by decide +kernel
theorem dX11_lags_22 : decode cX11_lags 22 = .ok (.istore_n 2, 1) := by decide +kernel
theorem dX11_lags_23 : decode cX11_lags 23 = .ok (.iconst 0, 1) := by decide +kernel
theorem dX11_lags_24 : decode cX11_lags 24 = .ok (.istore_n 3, 1) := by decide +kernel
theorem dX11_lags_25 : decode cX11_lags 25 = .ok (.iconst 0, 1) := by decide +kernel
theorem dX11_lags_26 : decode cX11_lags 26 = .ok (.istore 4, 2) := by decide +kernel
theorem dX11_lags_28 : decode cX11_lags 28 = .ok (.iload 4, 2) := by decide +kernel
theorem dX11_lags_30 : decode cX11_lags 30 = .ok (.bipush 8, 2) := by decide +kernel
theorem dX11_lags_32 : decode cX11_lags 32 = .ok (.if_icmp .ge 42, 3) := by decide +kernel
theorem dX11_lags_35 : decode cX11_lags 35 = .ok (.iload_n 2, 1) := by decide +kernel
theorem dX11_lags_36 : decode cX11_lags 36 = .ok (.aload_n 0, 1) := by decide +kernel
theorem dX11_lags_37 : decode cX11_lags 37 = .ok (.iload 4, 2) := by decide +kernel
theorem dX11_lags_39 : decode cX11_lags 39 = .ok (.invokevirtual 228, 3) := by decide +kernel
theorem dX11_lags_42 : decode cX11_lags 42 = .ok (.ifCond .eq 13, 3) := by decide +kernel
theorem dX11_lags_45 : decode cX11_lags 45 = .ok (.aload_n 0, 1) := by decide +kernel
theorem dX11_lags_46 : decode cX11_lags 46 = .ok (.iload 4, 2) := by decide +kernel
theorem dX11_lags_48 : decode cX11_lags 48 = .ok (.iconst 1, 1) := by decide +kernel
theorem dX11_lags_49 : decode cX11_lags 49 = .ok (.invokevirtual 92, 3) := by decide +kernel
theorem dX11_lags_52 : decode cX11_lags 52 = .ok (.goto 4, 3) := by decide +kernel
theorem dX11_lags_55 : decode cX11_lags 55 = .ok (.iconst 0, 1) := by decide +kernel
theorem dX11_lags_56 : decode cX11_lags 56 = .ok (.iadd, 1) := by decide +kernel
theorem dX11_lags_57 : decode cX11_lags 57 = .ok (.istore_n 2, 1) := by decide +kernel
theorem dX11_lags_58 : decode cX11_lags 58 = .ok (.iload_n 3, 1) := by decide +kernel
theorem dX11_lags_59 : decode cX11_lags 59 = .ok (.aload_n 0, 1) := by decide +kernel
theorem dX11_lags_60 : decode cX11_lags 60 = .ok (.getfield 22, 3) := by decide +kernel
theorem dX11_lags_63 : decode cX11_lags 63 = .ok (.iload 4, 2) := by decide +kernel
theorem dX11_lags_65 : decode cX11_lags 65 = .ok (.iaload, 1) := by decide +kernel
theorem dX11_lags_66 : decode cX11_lags 66 = .ok (.iadd, 1) := by decide +kernel
theorem dX11_lags_67 : decode cX11_lags 67 = .ok (.istore_n 3, 1) := by decide +kernel
theorem dX11_lags_68 : decode cX11_lags 68 = .ok (.iinc 4 1, 3) := by decide +kernel
theorem dX11_lags_71 : decode cX11_lags 71 = .ok (.goto (-43), 3) := by decide +kernel
theorem dX11_lags_74 : decode cX11_lags 74 = .ok (.aload_n 0, 1) := by decide +kernel
theorem dX11_lags_75 : decode cX11_lags 75 = .ok (.iload_n 1, 1) := by decide +kernel
theorem dX11_lags_76 : decode cX11_lags 76 = .ok (.iconst 1, 1) := by decide +kernel
theorem dX11_lags_77 : decode cX11_lags 77 = .ok (.invokevirtual 92, 3) := by decide +kernel
theorem dX11_lags_80 : decode cX11_lags 80 = .ok (.i2l, 1) := by decide +kernel
theorem dX11_lags_81 : decode cX11_lags 81 = .ok (.iload_n 3, 1) := by decide +kernel
theorem dX11_lags_82 : decode cX11_lags 82 = .ok (.i2l, 1) := by decide +kernel
theorem dX11_lags_83 : decode cX11_lags 83 = .ok (.lmul, 1) := by decide +kernel
theorem dX11_lags_84 : decode cX11_lags 84 = .ok (.iload_n 2, 1) := by decide +kernel
theorem dX11_lags_85 : decode cX11_lags 85 = .ok (.i2l, 1) := by decide +kernel
theorem dX11_lags_86 : decode cX11_lags 86 = .ok (.aload_n 0, 1) := by decide +kernel
theorem dX11_lags_87 : decode cX11_lags 87 = .ok (.getfield 22, 3) := by decide +kernel
theorem dX11_lags_90 : decode cX11_lags 90 = .ok (.iload_n 1, 1) := by decide +kernel
theorem dX11_lags_91 : decode cX11_lags 91 = .ok (.iaload, 1) := by decide +kernel
theorem dX11_lags_92 : decode cX11_lags 92 = .ok (.i2l, 1) := by decide +kernel
theorem dX11_lags_93 : decode cX11_lags 93 = .ok (.lmul, 1) := by decide +kernel
theorem dX11_lags_94 : decode cX11_lags 94 = .ok (.lsub, 1) := by decide +kernel
theorem dX11_lags_95 : decode cX11_lags 95 = .ok (.lstore 4, 2) := by decide +kernel
theorem dX11_lags_97 : decode cX11_lags 97 = .ok (.lload 4, 2) := by decide +kernel
theorem dX11_lags_99 : decode cX11_lags 99 = .ok (.iload_n 2, 1) := by decide +kernel
theorem dX11_lags_100 : decode cX11_lags 100 = .ok (.i2l, 1) := by decide +kernel
theorem dX11_lags_101 : decode cX11_lags 101 = .ok (.ldiv, 1) := by decide +kernel
theorem dX11_lags_102 : decode cX11_lags 102 = .ok (.lstore 6, 2) := by decide +kernel
theorem dX11_lags_104 : decode cX11_lags 104 = .ok (.lload 6, 2) := by decide +kernel
theorem dX11_lags_106 : decode cX11_lags 106 = .ok (.iload_n 2, 1) := by decide +kernel
theorem dX11_lags_107 : decode cX11_lags 107 = .ok (.i2l, 1) := by decide +kernel
theorem dX11_lags_108 : decode cX11_lags 108 = .ok (.lmul, 1) := by decide +kernel
theorem dX11_lags_109 : decode cX11_lags 109 = .ok (.lload 4, 2) := by decide +kernel
theorem dX11_lags_111 : decode cX11_lags 111 = .ok (.lcmp, 1) := by decide +kernel
theorem dX11_lags_112 : decode cX11_lags 112 = .ok (.ifCond .le 10, 3) := by decide +kernel
theorem dX11_lags_115 : decode cX11_lags 115 = .ok (.lload 6, 2) := by decide +kernel
theorem dX11_lags_117 : decode cX11_lags 117 = .ok (.lconst 1, 1) := by decide +kernel
theorem dX11_lags_118 : decode cX11_lags 118 = .ok (.lsub, 1) := by decide +kernel
theorem dX11_lags_119 : decode cX11_lags 119 = .ok (.goto 5, 3) := by decide +kernel
theorem dX11_lags_122 : decode cX11_lags 122 = .ok (.lload 6, 2) := by decide +kernel
theorem dX11_lags_124 : decode cX11_lags 124 = .ok (.l2i, 1) := by decide +kernel
theorem dX11_lags_125 : decode cX11_lags 125 = .ok (.ireturn, 1) := by decide +kernel
theorem dX11_ranks_0 : decode cX11_ranks 0 = .ok (.aload_n 0, 1) := by decide +kernel
theorem dX11_ranks_1 : decode cX11_ranks 1 = .ok (.iload_n 1, 1) := by decide +kernel
theorem dX11_ranks_2 : decode cX11_ranks 2 = .ok (.iload_n 2, 1) := by decide +kernel
theorem dX11_ranks_3 : decode cX11_ranks 3 = .ok (.iload_n 3, 1) := by decide +kernel
theorem dX11_ranks_4 : decode cX11_ranks 4 = .ok (.iload 4, 2) := by decide +kernel
theorem dX11_ranks_6 : decode cX11_ranks 6 = .ok (.invokevirtual 146, 3) := by decide +kernel
theorem dX11_ranks_9 : decode cX11_ranks 9 = .ok (.istore 5, 2) := by decide +kernel
theorem dX11_ranks_11 : decode cX11_ranks 11 = .ok (.iconst 0, 1) := by decide +kernel
theorem dX11_ranks_12 : decode cX11_ranks 12 = .ok (.istore 6, 2) := by decide +kernel
theorem dX11_ranks_14 : decode cX11_ranks 14 = .ok (.iload 6, 2) := by decide +kernel
theorem dX11_ranks_16 : decode cX11_ranks 16 = .ok (.iload 4, 2) := by decide +kernel
theorem dX11_ranks_18 : decode cX11_ranks 18 = .ok (.if_icmp .ge 57, 3) := by decide +kernel
theorem dX11_ranks_21 : decode cX11_ranks 21 = .ok (.iload 5, 2) := by decide +kernel
theorem dX11_ranks_23 : decode cX11_ranks 23 = .ok (.iconst 1, 1) := by decide +kernel
theorem dX11_ranks_24 : decode cX11_ranks 24 = .ok (.if_icmp .ne 51, 3) := by decide +kernel
theorem dX11_ranks_27 : decode cX11_ranks 27 = .ok (.aload_n 0, 1) := by decide +kernel
theorem dX11_ranks_28 : decode cX11_ranks 28 = .ok (.getfield 43, 3) := by decide +kernel
theorem dX11_ranks_31 : decode cX11_ranks 31 = .ok (.iload 6, 2) := by decide +kernel
theorem dX11_ranks_33 : decode cX11_ranks 33 = .ok (.aload_n 0, 1) := by decide +kernel
theorem dX11_ranks_34 : decode cX11_ranks 34 = .ok (.iload_n 1, 1) := by decide +kernel
theorem dX11_ranks_35 : decode cX11_ranks 35 = .ok (.iload_n 3, 1) := by decide +kernel
theorem dX11_ranks_36 : decode cX11_ranks 36 = .ok (.iload 6, 2) := by decide +kernel
theorem dX11_ranks_38 : decode cX11_ranks 38 = .ok (.iadd, 1) := by decide +kernel
theorem dX11_ranks_39 : decode cX11_ranks 39 = .ok (.invokevirtual 150, 3) := by decide +kernel
theorem dX11_ranks_42 : decode cX11_ranks 42 = .ok (.iastore, 1) := by decide +kernel
theorem dX11_ranks_43 : decode cX11_ranks 43 = .ok (.aload_n 0, 1) := by decide +kernel
theorem dX11_ranks_44 : decode cX11_ranks 44 = .ok (.getfield 43, 3) := by decide +kernel
theorem dX11_ranks_47 : decode cX11_ranks 47 = .ok (.iload 6, 2) := by decide +kernel
theorem dX11_ranks_49 : decode cX11_ranks 49 = .ok (.iaload, 1) := by decide +kernel
theorem dX11_ranks_50 : decode cX11_ranks 50 = .ok (.i2l, 1) := by decide +kernel
theorem dX11_ranks_51 : decode cX11_ranks 51 = .ok (.lconst 0, 1) := by decide +kernel
theorem dX11_ranks_52 : decode cX11_ranks 52 = .ok (.ldc2_w 231, 3) := by decide +kernel
theorem dX11_ranks_55 : decode cX11_ranks 55 = .ok (.invokestatic 70, 3) := by decide +kernel
theorem dX11_ranks_58 : decode cX11_ranks 58 = .ok (.ifCond .eq 7, 3) := by decide +kernel
theorem dX11_ranks_61 : decode cX11_ranks 61 = .ok (.iconst 1, 1) := by decide +kernel
theorem dX11_ranks_62 : decode cX11_ranks 62 = .ok (.goto 5, 3) := by decide +kernel
theorem dX11_ranks_65 : decode cX11_ranks 65 = .ok (.bipush (-2), 2) := by decide +kernel
theorem dX11_ranks_67 : decode cX11_ranks 67 = .ok (.istore 5, 2) := by decide +kernel
theorem dX11_ranks_69 : decode cX11_ranks 69 = .ok (.iinc 6 1, 3) := by decide +kernel
theorem dX11_ranks_72 : decode cX11_ranks 72 = .ok (.goto (-58), 3) := by decide +kernel
theorem dX11_ranks_75 : decode cX11_ranks 75 = .ok (.iload 5, 2) := by decide +kernel
theorem dX11_ranks_77 : decode cX11_ranks 77 = .ok (.ireturn, 1) := by decide +kernel
theorem dX11_turned_0 : decode cX11_turned 0 = .ok (.iconst 0, 1) := by decide +kernel
theorem dX11_turned_1 : decode cX11_turned 1 = .ok (.istore 4, 2) := by decide +kernel
theorem dX11_turned_3 : decode cX11_turned 3 = .ok (.iconst 0, 1) := by decide +kernel
theorem dX11_turned_4 : decode cX11_turned 4 = .ok (.istore 5, 2) := by decide +kernel
theorem dX11_turned_6 : decode cX11_turned 6 = .ok (.iload 5, 2) := by decide +kernel
theorem dX11_turned_8 : decode cX11_turned 8 = .ok (.iload_n 1, 1) := by decide +kernel
theorem dX11_turned_9 : decode cX11_turned 9 = .ok (.if_icmp .ge 88, 3) := by decide +kernel
theorem dX11_turned_12 : decode cX11_turned 12 = .ok (.iconst 0, 1) := by decide +kernel
theorem dX11_turned_13 : decode cX11_turned 13 = .ok (.istore 6, 2) := by decide +kernel
theorem dX11_turned_15 : decode cX11_turned 15 = .ok (.iload 6, 2) := by decide +kernel
theorem dX11_turned_17 : decode cX11_turned 17 = .ok (.iload 5, 2) := by decide +kernel
theorem dX11_turned_19 : decode cX11_turned 19 = .ok (.if_icmp .ge 72, 3) := by decide +kernel
theorem dX11_turned_22 : decode cX11_turned 22 = .ok (.iload 4, 2) := by decide +kernel
theorem dX11_turned_24 : decode cX11_turned 24 = .ok (.aload_n 0, 1) := by decide +kernel
theorem dX11_turned_25 : decode cX11_turned 25 = .ok (.getfield 43, 3) := by decide +kernel
theorem dX11_turned_28 : decode cX11_turned 28 = .ok (.iload 6, 2) := by decide +kernel
theorem dX11_turned_30 : decode cX11_turned 30 = .ok (.iaload, 1) := by decide +kernel
theorem dX11_turned_31 : decode cX11_turned 31 = .ok (.aload_n 0, 1) := by decide +kernel
theorem dX11_turned_32 : decode cX11_turned 32 = .ok (.getfield 43, 3) := by decide +kernel
theorem dX11_turned_35 : decode cX11_turned 35 = .ok (.iload 5, 2) := by decide +kernel
theorem dX11_turned_37 : decode cX11_turned 37 = .ok (.iaload, 1) := by decide +kernel
theorem dX11_turned_38 : decode cX11_turned 38 = .ok (.if_icmp .le 43, 3) := by decide +kernel
theorem dX11_turned_41 : decode cX11_turned 41 = .ok (.aload_n 0, 1) := by decide +kernel
theorem dX11_turned_42 : decode cX11_turned 42 = .ok (.getfield 43, 3) := by decide +kernel
theorem dX11_turned_45 : decode cX11_turned 45 = .ok (.iload 6, 2) := by decide +kernel
theorem dX11_turned_47 : decode cX11_turned 47 = .ok (.iaload, 1) := by decide +kernel
theorem dX11_turned_48 : decode cX11_turned 48 = .ok (.i2l, 1) := by decide +kernel
theorem dX11_turned_49 : decode cX11_turned 49 = .ok (.iload_n 2, 1) := by decide +kernel
theorem dX11_turned_50 : decode cX11_turned 50 = .ok (.i2l, 1) := by decide +kernel
theorem dX11_turned_51 : decode cX11_turned 51 = .ok (.iload_n 3, 1) := by decide +kernel
theorem dX11_turned_52 : decode cX11_turned 52 = .ok (.i2l, 1) := by decide +kernel
theorem dX11_turned_53 : decode cX11_turned 53 = .ok (.invokestatic 70, 3) := by decide +kernel
theorem dX11_turned_56 : decode cX11_turned 56 = .ok (.ifCond .eq 25, 3) := by decide +kernel
theorem dX11_turned_59 : decode cX11_turned 59 = .ok (.aload_n 0, 1) := by decide +kernel
theorem dX11_turned_60 : decode cX11_turned 60 = .ok (.getfield 43, 3) := by decide +kernel
theorem dX11_turned_63 : decode cX11_turned 63 = .ok (.iload 5, 2) := by decide +kernel
theorem dX11_turned_65 : decode cX11_turned 65 = .ok (.iaload, 1) := by decide +kernel
theorem dX11_turned_66 : decode cX11_turned 66 = .ok (.i2l, 1) := by decide +kernel
theorem dX11_turned_67 : decode cX11_turned 67 = .ok (.iload_n 2, 1) := by decide +kernel
theorem dX11_turned_68 : decode cX11_turned 68 = .ok (.i2l, 1) := by decide +kernel
theorem dX11_turned_69 : decode cX11_turned 69 = .ok (.iload_n 3, 1) := by decide +kernel
theorem dX11_turned_70 : decode cX11_turned 70 = .ok (.i2l, 1) := by decide +kernel
theorem dX11_turned_71 : decode cX11_turned 71 = .ok (.invokestatic 70, 3) := by decide +kernel
theorem dX11_turned_74 : decode cX11_turned 74 = .ok (.ifCond .eq 7, 3) := by decide +kernel
theorem dX11_turned_77 : decode cX11_turned 77 = .ok (.iconst 1, 1) := by decide +kernel
theorem dX11_turned_78 : decode cX11_turned 78 = .ok (.goto 4, 3) := by decide +kernel
theorem dX11_turned_81 : decode cX11_turned 81 = .ok (.iconst 0, 1) := by decide +kernel
theorem dX11_turned_82 : decode cX11_turned 82 = .ok (.iadd, 1) := by decide +kernel
theorem dX11_turned_83 : decode cX11_turned 83 = .ok (.istore 4, 2) := by decide +kernel
theorem dX11_turned_85 : decode cX11_turned 85 = .ok (.iinc 6 1, 3) := by decide +kernel
theorem dX11_turned_88 : decode cX11_turned 88 = .ok (.goto (-73), 3) := by decide +kernel
theorem dX11_turned_91 : decode cX11_turned 91 = .ok (.iinc 5 1, 3) := by decide +kernel
theorem dX11_turned_94 : decode cX11_turned 94 = .ok (.goto (-88), 3) := by decide +kernel
theorem dX11_turned_97 : decode cX11_turned 97 = .ok (.iload 4, 2) := by decide +kernel
theorem dX11_turned_99 : decode cX11_turned 99 = .ok (.ireturn, 1) := by decide +kernel
theorem dX11_heaps_0 : decode cX11_heaps 0 = .ok (.iload_n 1, 1) := by decide +kernel
theorem dX11_heaps_1 : decode cX11_heaps 1 = .ok (.invokestatic 140, 3) := by decide +kernel
theorem dX11_heaps_4 : decode cX11_heaps 4 = .ok (.ifCond .eq 48, 3) := by decide +kernel
theorem dX11_heaps_7 : decode cX11_heaps 7 = .ok (.iload_n 2, 1) := by decide +kernel
theorem dX11_heaps_8 : decode cX11_heaps 8 = .ok (.invokestatic 143, 3) := by decide +kernel
theorem dX11_heaps_11 : decode cX11_heaps 11 = .ok (.ifCond .eq 41, 3) := by decide +kernel
theorem dX11_heaps_14 : decode cX11_heaps 14 = .ok (.iload 4, 2) := by decide +kernel
theorem dX11_heaps_16 : decode cX11_heaps 16 = .ok (.i2l, 1) := by decide +kernel
theorem dX11_heaps_17 : decode cX11_heaps 17 = .ok (.lconst 1, 1) := by decide +kernel
theorem dX11_heaps_18 : decode cX11_heaps 18 = .ok (.ldc2_w 197, 3) := by decide +kernel
theorem dX11_heaps_21 : decode cX11_heaps 21 = .ok (.invokestatic 70, 3) := by decide +kernel
theorem dX11_heaps_24 : decode cX11_heaps 24 = .ok (.ifCond .eq 28, 3) := by decide +kernel
theorem dX11_heaps_27 : decode cX11_heaps 27 = .ok (.iload 5, 2) := by decide +kernel
theorem dX11_heaps_29 : decode cX11_heaps 29 = .ok (.iconst 1, 1) := by decide +kernel
theorem dX11_heaps_30 : decode cX11_heaps 30 = .ok (.if_icmp .eq 24, 3) := by decide +kernel
theorem dX11_heaps_33 : decode cX11_heaps 33 = .ok (.iload 5, 2) := by decide +kernel
theorem dX11_heaps_35 : decode cX11_heaps 35 = .ok (.iconst 2, 1) := by decide +kernel
theorem dX11_heaps_36 : decode cX11_heaps 36 = .ok (.if_icmp .eq 18, 3) := by decide +kernel
theorem dX11_heaps_39 : decode cX11_heaps 39 = .ok (.iload 5, 2) := by decide +kernel
theorem dX11_heaps_41 : decode cX11_heaps 41 = .ok (.iconst 4, 1) := by decide +kernel
theorem dX11_heaps_42 : decode cX11_heaps 42 = .ok (.if_icmp .eq 12, 3) := by decide +kernel
theorem dX11_heaps_45 : decode cX11_heaps 45 = .ok (.iload 5, 2) := by decide +kernel
theorem dX11_heaps_47 : decode cX11_heaps 47 = .ok (.bipush 8, 2) := by decide +kernel
theorem dX11_heaps_49 : decode cX11_heaps 49 = .ok (.if_icmp .eq 5, 3) := by decide +kernel
theorem dX11_heaps_52 : decode cX11_heaps 52 = .ok (.iconst (-1), 1) := by decide +kernel
theorem dX11_heaps_53 : decode cX11_heaps 53 = .ok (.ireturn, 1) := by decide +kernel
theorem dX11_heaps_54 : decode cX11_heaps 54 = .ok (.aload_n 0, 1) := by decide +kernel
theorem dX11_heaps_55 : decode cX11_heaps 55 = .ok (.iload_n 1, 1) := by decide +kernel
theorem dX11_heaps_56 : decode cX11_heaps 56 = .ok (.iload_n 2, 1) := by decide +kernel
theorem dX11_heaps_57 : decode cX11_heaps 57 = .ok (.iload_n 3, 1) := by decide +kernel
theorem dX11_heaps_58 : decode cX11_heaps 58 = .ok (.iload 4, 2) := by decide +kernel
theorem dX11_heaps_60 : decode cX11_heaps 60 = .ok (.invokevirtual 233, 3) := by decide +kernel
theorem dX11_heaps_63 : decode cX11_heaps 63 = .ok (.istore 6, 2) := by decide +kernel
theorem dX11_heaps_65 : decode cX11_heaps 65 = .ok (.iload 6, 2) := by decide +kernel
theorem dX11_heaps_67 : decode cX11_heaps 67 = .ok (.iconst 1, 1) := by decide +kernel
theorem dX11_heaps_68 : decode cX11_heaps 68 = .ok (.if_icmp .eq 6, 3) := by decide +kernel
theorem dX11_heaps_71 : decode cX11_heaps 71 = .ok (.iload 6, 2) := by decide +kernel
theorem dX11_heaps_73 : decode cX11_heaps 73 = .ok (.ireturn, 1) := by decide +kernel
theorem dX11_heaps_74 : decode cX11_heaps 74 = .ok (.iconst 0, 1) := by decide +kernel
theorem dX11_heaps_75 : decode cX11_heaps 75 = .ok (.istore 7, 2) := by decide +kernel
theorem dX11_heaps_77 : decode cX11_heaps 77 = .ok (.iconst 0, 1) := by decide +kernel
theorem dX11_heaps_78 : decode cX11_heaps 78 = .ok (.istore 8, 2) := by decide +kernel
theorem dX11_heaps_80 : decode cX11_heaps 80 = .ok (.iload 8, 2) := by decide +kernel
theorem dX11_heaps_82 : decode cX11_heaps 82 = .ok (.iload 5, 2) := by decide +kernel
theorem dX11_heaps_84 : decode cX11_heaps 84 = .ok (.if_icmp .ge 40, 3) := by decide +kernel
theorem dX11_heaps_87 : decode cX11_heaps 87 = .ok (.iload 7, 2) := by decide +kernel
theorem dX11_heaps_89 : decode cX11_heaps 89 = .ok (.aload_n 0, 1) := by decide +kernel
theorem dX11_heaps_90 : decode cX11_heaps 90 = .ok (.iload 4, 2) := by decide +kernel
theorem dX11_heaps_92 : decode cX11_heaps 92 = .ok (.bipush 32, 2) := by decide +kernel
theorem dX11_heaps_94 : decode cX11_heaps 94 = .ok (.iload 5, 2) := by decide +kernel
theorem dX11_heaps_96 : decode cX11_heaps 96 = .ok (.idiv, 1) := by decide +kernel
theorem dX11_heaps_97 : decode cX11_heaps 97 = .ok (.iload 8, 2) := by decide +kernel
theorem dX11_heaps_99 : decode cX11_heaps 99 = .ok (.imul, 1) := by decide +kernel
theorem dX11_heaps_100 : decode cX11_heaps 100 = .ok (.bipush 32, 2) := by decide +kernel
theorem dX11_heaps_102 : decode cX11_heaps 102 = .ok (.iload 5, 2) := by decide +kernel
theorem dX11_heaps_104 : decode cX11_heaps 104 = .ok (.idiv, 1) := by decide +kernel
theorem dX11_heaps_105 : decode cX11_heaps 105 = .ok (.iload 8, 2) := by decide +kernel
theorem dX11_heaps_107 : decode cX11_heaps 107 = .ok (.iconst 1, 1) := by decide +kernel
theorem dX11_heaps_108 : decode cX11_heaps 108 = .ok (.iadd, 1) := by decide +kernel
theorem dX11_heaps_109 : decode cX11_heaps 109 = .ok (.imul, 1) := by decide +kernel
theorem dX11_heaps_110 : decode cX11_heaps 110 = .ok (.iconst 1, 1) := by decide +kernel
theorem dX11_heaps_111 : decode cX11_heaps 111 = .ok (.isub, 1) := by decide +kernel
theorem dX11_heaps_112 : decode cX11_heaps 112 = .ok (.invokevirtual 236, 3) := by decide +kernel
theorem dX11_heaps_115 : decode cX11_heaps 115 = .ok (.iadd, 1) := by decide +kernel
theorem dX11_heaps_116 : decode cX11_heaps 116 = .ok (.istore 7, 2) := by decide +kernel
theorem dX11_heaps_118 : decode cX11_heaps 118 = .ok (.iinc 8 1, 3) := by decide +kernel
theorem dX11_heaps_121 : decode cX11_heaps 121 = .ok (.goto (-41), 3) := by decide +kernel
theorem dX11_heaps_124 : decode cX11_heaps 124 = .ok (.iload 7, 2) := by decide +kernel
theorem dX11_heaps_126 : decode cX11_heaps 126 = .ok (.ireturn, 1) := by decide +kernel
theorem dX11_cut_0 : decode cX11_cut 0 = .ok (.iload_n 1, 1) := by decide +kernel
theorem dX11_cut_1 : decode cX11_cut 1 = .ok (.invokestatic 140, 3) := by decide +kernel
theorem dX11_cut_4 : decode cX11_cut 4 = .ok (.ifCond .eq 36, 3) := by decide +kernel
theorem dX11_cut_7 : decode cX11_cut 7 = .ok (.iload_n 2, 1) := by decide +kernel
theorem dX11_cut_8 : decode cX11_cut 8 = .ok (.invokestatic 143, 3) := by decide +kernel
theorem dX11_cut_11 : decode cX11_cut 11 = .ok (.ifCond .eq 29, 3) := by decide +kernel
theorem dX11_cut_14 : decode cX11_cut 14 = .ok (.iload 4, 2) := by decide +kernel
theorem dX11_cut_16 : decode cX11_cut 16 = .ok (.i2l, 1) := by decide +kernel
theorem dX11_cut_17 : decode cX11_cut 17 = .ok (.lconst 1, 1) := by decide +kernel
theorem dX11_cut_18 : decode cX11_cut 18 = .ok (.ldc2_w 197, 3) := by decide +kernel
theorem dX11_cut_21 : decode cX11_cut 21 = .ok (.invokestatic 70, 3) := by decide +kernel
theorem dX11_cut_24 : decode cX11_cut 24 = .ok (.ifCond .eq 16, 3) := by decide +kernel
theorem dX11_cut_27 : decode cX11_cut 27 = .ok (.iload 5, 2) := by decide +kernel
theorem dX11_cut_29 : decode cX11_cut 29 = .ok (.i2l, 1) := by decide +kernel
theorem dX11_cut_30 : decode cX11_cut 30 = .ok (.lconst 1, 1) := by decide +kernel
theorem dX11_cut_31 : decode cX11_cut 31 = .ok (.ldc2_w 155, 3) := by decide +kernel
theorem dX11_cut_34 : decode cX11_cut 34 = .ok (.invokestatic 70, 3) := by decide +kernel
theorem dX11_cut_37 : decode cX11_cut 37 = .ok (.ifCond .ne 5, 3) := by decide +kernel
theorem dX11_cut_40 : decode cX11_cut 40 = .ok (.iconst (-1), 1) := by decide +kernel
theorem dX11_cut_41 : decode cX11_cut 41 = .ok (.ireturn, 1) := by decide +kernel
theorem dX11_cut_42 : decode cX11_cut 42 = .ok (.aload_n 0, 1) := by decide +kernel
theorem dX11_cut_43 : decode cX11_cut 43 = .ok (.iload_n 1, 1) := by decide +kernel
theorem dX11_cut_44 : decode cX11_cut 44 = .ok (.iload_n 2, 1) := by decide +kernel
theorem dX11_cut_45 : decode cX11_cut 45 = .ok (.iload_n 3, 1) := by decide +kernel
theorem dX11_cut_46 : decode cX11_cut 46 = .ok (.iload 4, 2) := by decide +kernel
theorem dX11_cut_48 : decode cX11_cut 48 = .ok (.invokevirtual 233, 3) := by decide +kernel
theorem dX11_cut_51 : decode cX11_cut 51 = .ok (.istore 6, 2) := by decide +kernel
theorem dX11_cut_53 : decode cX11_cut 53 = .ok (.iload 6, 2) := by decide +kernel
theorem dX11_cut_55 : decode cX11_cut 55 = .ok (.iconst 1, 1) := by decide +kernel
theorem dX11_cut_56 : decode cX11_cut 56 = .ok (.if_icmp .eq 6, 3) := by decide +kernel
theorem dX11_cut_59 : decode cX11_cut 59 = .ok (.iload 6, 2) := by decide +kernel
theorem dX11_cut_61 : decode cX11_cut 61 = .ok (.ireturn, 1) := by decide +kernel
theorem dX11_cut_62 : decode cX11_cut 62 = .ok (.iconst 1, 1) := by decide +kernel
theorem dX11_cut_63 : decode cX11_cut 63 = .ok (.istore 7, 2) := by decide +kernel
theorem dX11_cut_65 : decode cX11_cut 65 = .ok (.iload 7, 2) := by decide +kernel
theorem dX11_cut_67 : decode cX11_cut 67 = .ok (.iload 5, 2) := by decide +kernel
theorem dX11_cut_69 : decode cX11_cut 69 = .ok (.if_icmp .gt 121, 3) := by decide +kernel
theorem dX11_cut_72 : decode cX11_cut 72 = .ok (.iconst 1, 1) := by decide +kernel
theorem dX11_cut_73 : decode cX11_cut 73 = .ok (.istore 8, 2) := by decide +kernel
theorem dX11_cut_75 : decode cX11_cut 75 = .ok (.iload 8, 2) := by decide +kernel
theorem dX11_cut_77 : decode cX11_cut 77 = .ok (.bipush 32, 2) := by decide +kernel
theorem dX11_cut_79 : decode cX11_cut 79 = .ok (.if_icmp .gt 105, 3) := by decide +kernel
theorem dX11_cut_82 : decode cX11_cut 82 = .ok (.aload_n 0, 1) := by decide +kernel
theorem dX11_cut_83 : decode cX11_cut 83 = .ok (.iload 4, 2) := by decide +kernel
theorem dX11_cut_85 : decode cX11_cut 85 = .ok (.iconst 0, 1) := by decide +kernel
theorem dX11_cut_86 : decode cX11_cut 86 = .ok (.iload 8, 2) := by decide +kernel
theorem dX11_cut_88 : decode cX11_cut 88 = .ok (.iconst 1, 1) := by decide +kernel
theorem dX11_cut_89 : decode cX11_cut 89 = .ok (.isub, 1) := by decide +kernel
theorem dX11_cut_90 : decode cX11_cut 90 = .ok (.invokevirtual 236, 3) := by decide +kernel
theorem dX11_cut_93 : decode cX11_cut 93 = .ok (.istore 9, 2) := by decide +kernel
theorem dX11_cut_95 : decode cX11_cut 95 = .ok (.iconst 1, 1) := by decide +kernel
theorem dX11_cut_96 : decode cX11_cut 96 = .ok (.istore 10, 2) := by decide +kernel
theorem dX11_cut_98 : decode cX11_cut 98 = .ok (.iload 10, 2) := by decide +kernel
theorem dX11_cut_100 : decode cX11_cut 100 = .ok (.iload 8, 2) := by decide +kernel
theorem dX11_cut_102 : decode cX11_cut 102 = .ok (.if_icmp .ge 61, 3) := by decide +kernel
theorem dX11_cut_105 : decode cX11_cut 105 = .ok (.iload 7, 2) := by decide +kernel
theorem dX11_cut_107 : decode cX11_cut 107 = .ok (.iconst 1, 1) := by decide +kernel
theorem dX11_cut_108 : decode cX11_cut 108 = .ok (.if_icmp .le 55, 3) := by decide +kernel
theorem dX11_cut_111 : decode cX11_cut 111 = .ok (.aload_n 0, 1) := by decide +kernel
theorem dX11_cut_112 : decode cX11_cut 112 = .ok (.getfield 52, 3) := by decide +kernel
theorem dX11_cut_115 : decode cX11_cut 115 = .ok (.bipush 33, 2) := by decide +kernel
theorem dX11_cut_117 : decode cX11_cut 117 = .ok (.iload 7, 2) := by decide +kernel
theorem dX11_cut_119 : decode cX11_cut 119 = .ok (.iconst 1, 1) := by decide +kernel
theorem dX11_cut_120 : decode cX11_cut 120 = .ok (.isub, 1) := by decide +kernel
theorem dX11_cut_121 : decode cX11_cut 121 = .ok (.imul, 1) := by decide +kernel
theorem dX11_cut_122 : decode cX11_cut 122 = .ok (.iload 10, 2) := by decide +kernel
theorem dX11_cut_124 : decode cX11_cut 124 = .ok (.iadd, 1) := by decide +kernel
theorem dX11_cut_125 : decode cX11_cut 125 = .ok (.iaload, 1) := by decide +kernel
theorem dX11_cut_126 : decode cX11_cut 126 = .ok (.aload_n 0, 1) := by decide +kernel
theorem dX11_cut_127 : decode cX11_cut 127 = .ok (.iload 4, 2) := by decide +kernel
theorem dX11_cut_129 : decode cX11_cut 129 = .ok (.iload 10, 2) := by decide +kernel
theorem dX11_cut_131 : decode cX11_cut 131 = .ok (.iload 8, 2) := by decide +kernel
theorem dX11_cut_133 : decode cX11_cut 133 = .ok (.iconst 1, 1) := by decide +kernel
theorem dX11_cut_134 : decode cX11_cut 134 = .ok (.isub, 1) := by decide +kernel
theorem dX11_cut_135 : decode cX11_cut 135 = .ok (.invokevirtual 236, 3) := by decide +kernel
theorem dX11_cut_138 : decode cX11_cut 138 = .ok (.iadd, 1) := by decide +kernel
theorem dX11_cut_139 : decode cX11_cut 139 = .ok (.istore 11, 2) := by decide +kernel
theorem dX11_cut_141 : decode cX11_cut 141 = .ok (.iload 11, 2) := by decide +kernel
theorem dX11_cut_143 : decode cX11_cut 143 = .ok (.iload 9, 2) := by decide +kernel
theorem dX11_cut_145 : decode cX11_cut 145 = .ok (.if_icmp .ge 8, 3) := by decide +kernel
theorem dX11_cut_148 : decode cX11_cut 148 = .ok (.iload 11, 2) := by decide +kernel
theorem dX11_cut_150 : decode cX11_cut 150 = .ok (.goto 5, 3) := by decide +kernel
theorem dX11_cut_153 : decode cX11_cut 153 = .ok (.iload 9, 2) := by decide +kernel
theorem dX11_cut_155 : decode cX11_cut 155 = .ok (.istore 9, 2) := by decide +kernel
theorem dX11_cut_157 : decode cX11_cut 157 = .ok (.iinc 10 1, 3) := by decide +kernel
theorem dX11_cut_160 : decode cX11_cut 160 = .ok (.goto (-62), 3) := by decide +kernel
theorem dX11_cut_163 : decode cX11_cut 163 = .ok (.aload_n 0, 1) := by decide +kernel
theorem dX11_cut_164 : decode cX11_cut 164 = .ok (.getfield 52, 3) := by decide +kernel
theorem dX11_cut_167 : decode cX11_cut 167 = .ok (.bipush 33, 2) := by decide +kernel
theorem dX11_cut_169 : decode cX11_cut 169 = .ok (.iload 7, 2) := by decide +kernel
theorem dX11_cut_171 : decode cX11_cut 171 = .ok (.imul, 1) := by decide +kernel
theorem dX11_cut_172 : decode cX11_cut 172 = .ok (.iload 8, 2) := by decide +kernel
theorem dX11_cut_174 : decode cX11_cut 174 = .ok (.iadd, 1) := by decide +kernel
theorem dX11_cut_175 : decode cX11_cut 175 = .ok (.iload 9, 2) := by decide +kernel
theorem dX11_cut_177 : decode cX11_cut 177 = .ok (.iastore, 1) := by decide +kernel
theorem dX11_cut_178 : decode cX11_cut 178 = .ok (.iinc 8 1, 3) := by decide +kernel
theorem dX11_cut_181 : decode cX11_cut 181 = .ok (.goto (-106), 3) := by decide +kernel
theorem dX11_cut_184 : decode cX11_cut 184 = .ok (.iinc 7 1, 3) := by decide +kernel
theorem dX11_cut_187 : decode cX11_cut 187 = .ok (.goto (-122), 3) := by decide +kernel
theorem dX11_cut_190 : decode cX11_cut 190 = .ok (.aload_n 0, 1) := by decide +kernel
theorem dX11_cut_191 : decode cX11_cut 191 = .ok (.getfield 52, 3) := by decide +kernel
theorem dX11_cut_194 : decode cX11_cut 194 = .ok (.bipush 33, 2) := by decide +kernel
theorem dX11_cut_196 : decode cX11_cut 196 = .ok (.iload 5, 2) := by decide +kernel
theorem dX11_cut_198 : decode cX11_cut 198 = .ok (.imul, 1) := by decide +kernel
theorem dX11_cut_199 : decode cX11_cut 199 = .ok (.bipush 32, 2) := by decide +kernel
theorem dX11_cut_201 : decode cX11_cut 201 = .ok (.iadd, 1) := by decide +kernel
theorem dX11_cut_202 : decode cX11_cut 202 = .ok (.iaload, 1) := by decide +kernel
theorem dX11_cut_203 : decode cX11_cut 203 = .ok (.ireturn, 1) := by decide +kernel
theorem dX11_isTwice_0 : decode cX11_isTwice 0 = .ok (.iconst 0, 1) := by decide +kernel
theorem dX11_isTwice_1 : decode cX11_isTwice 1 = .ok (.istore_n 2, 1) := by decide +kernel
theorem dX11_isTwice_2 : decode cX11_isTwice 2 = .ok (.iconst 0, 1) := by decide +kernel
theorem dX11_isTwice_3 : decode cX11_isTwice 3 = .ok (.istore_n 3, 1) := by decide +kernel
theorem dX11_isTwice_4 : decode cX11_isTwice 4 = .ok (.iload_n 3, 1) := by decide +kernel
theorem dX11_isTwice_5 : decode cX11_isTwice 5 = .ok (.iload_n 1, 1) := by decide +kernel
theorem dX11_isTwice_6 : decode cX11_isTwice 6 = .ok (.if_icmp .ge 50, 3) := by decide +kernel
theorem dX11_isTwice_9 : decode cX11_isTwice 9 = .ok (.iconst 0, 1) := by decide +kernel
theorem dX11_isTwice_10 : decode cX11_isTwice 10 = .ok (.istore 4, 2) := by decide +kernel
theorem dX11_isTwice_12 : decode cX11_isTwice 12 = .ok (.iload 4, 2) := by decide +kernel
theorem dX11_isTwice_14 : decode cX11_isTwice 14 = .ok (.iload_n 3, 1) := by decide +kernel
theorem dX11_isTwice_15 : decode cX11_isTwice 15 = .ok (.if_icmp .ge 35, 3) := by decide +kernel
theorem dX11_isTwice_18 : decode cX11_isTwice 18 = .ok (.iload_n 2, 1) := by decide +kernel
theorem dX11_isTwice_19 : decode cX11_isTwice 19 = .ok (.ifCond .ne 19, 3) := by decide +kernel
theorem dX11_isTwice_22 : decode cX11_isTwice 22 = .ok (.aload_n 0, 1) := by decide +kernel
theorem dX11_isTwice_23 : decode cX11_isTwice 23 = .ok (.getfield 43, 3) := by decide +kernel
theorem dX11_isTwice_26 : decode cX11_isTwice 26 = .ok (.iload 4, 2) := by decide +kernel
theorem dX11_isTwice_28 : decode cX11_isTwice 28 = .ok (.iaload, 1) := by decide +kernel
theorem dX11_isTwice_29 : decode cX11_isTwice 29 = .ok (.aload_n 0, 1) := by decide +kernel
theorem dX11_isTwice_30 : decode cX11_isTwice 30 = .ok (.getfield 43, 3) := by decide +kernel
theorem dX11_isTwice_33 : decode cX11_isTwice 33 = .ok (.iload_n 3, 1) := by decide +kernel
theorem dX11_isTwice_34 : decode cX11_isTwice 34 = .ok (.iaload, 1) := by decide +kernel
theorem dX11_isTwice_35 : decode cX11_isTwice 35 = .ok (.if_icmp .ne 7, 3) := by decide +kernel
theorem dX11_isTwice_38 : decode cX11_isTwice 38 = .ok (.iconst 1, 1) := by decide +kernel
theorem dX11_isTwice_39 : decode cX11_isTwice 39 = .ok (.goto 4, 3) := by decide +kernel
theorem dX11_isTwice_42 : decode cX11_isTwice 42 = .ok (.iconst 0, 1) := by decide +kernel
theorem dX11_isTwice_43 : decode cX11_isTwice 43 = .ok (.istore_n 2, 1) := by decide +kernel
theorem dX11_isTwice_44 : decode cX11_isTwice 44 = .ok (.iinc 4 1, 3) := by decide +kernel
theorem dX11_isTwice_47 : decode cX11_isTwice 47 = .ok (.goto (-35), 3) := by decide +kernel
theorem dX11_isTwice_50 : decode cX11_isTwice 50 = .ok (.iinc 3 1, 3) := by decide +kernel
theorem dX11_isTwice_53 : decode cX11_isTwice 53 = .ok (.goto (-49), 3) := by decide +kernel
theorem dX11_isTwice_56 : decode cX11_isTwice 56 = .ok (.iload_n 2, 1) := by decide +kernel
theorem dX11_isTwice_57 : decode cX11_isTwice 57 = .ok (.ireturn, 1) := by decide +kernel
theorem dX11_makes_0 : decode cX11_makes 0 = .ok (.iconst 1, 1) := by decide +kernel
theorem dX11_makes_1 : decode cX11_makes 1 = .ok (.istore 4, 2) := by decide +kernel
theorem dX11_makes_3 : decode cX11_makes 3 = .ok (.iload 4, 2) := by decide +kernel
theorem dX11_makes_5 : decode cX11_makes 5 = .ok (.iload_n 1, 1) := by decide +kernel
theorem dX11_makes_6 : decode cX11_makes 6 = .ok (.if_icmp .ge 131, 3) := by decide +kernel
theorem dX11_makes_9 : decode cX11_makes 9 = .ok (.aload_n 0, 1) := by decide +kernel
theorem dX11_makes_10 : decode cX11_makes 10 = .ok (.getfield 43, 3) := by decide +kernel
theorem dX11_makes_13 : decode cX11_makes 13 = .ok (.iload 4, 2) := by decide +kernel
theorem dX11_makes_15 : decode cX11_makes 15 = .ok (.iconst 1, 1) := by decide +kernel
theorem dX11_makes_16 : decode cX11_makes 16 = .ok (.isub, 1) := by decide +kernel
theorem dX11_makes_17 : decode cX11_makes 17 = .ok (.iaload, 1) := by decide +kernel
theorem dX11_makes_18 : decode cX11_makes 18 = .ok (.istore 5, 2) := by decide +kernel
theorem dX11_makes_20 : decode cX11_makes 20 = .ok (.aload_n 0, 1) := by decide +kernel
theorem dX11_makes_21 : decode cX11_makes 21 = .ok (.getfield 43, 3) := by decide +kernel
theorem dX11_makes_24 : decode cX11_makes 24 = .ok (.iload 4, 2) := by decide +kernel
theorem dX11_makes_26 : decode cX11_makes 26 = .ok (.iaload, 1) := by decide +kernel
theorem dX11_makes_27 : decode cX11_makes 27 = .ok (.istore 6, 2) := by decide +kernel
theorem dX11_makes_29 : decode cX11_makes 29 = .ok (.iload_n 2, 1) := by decide +kernel
theorem dX11_makes_30 : decode cX11_makes 30 = .ok (.bipush 10, 2) := by decide +kernel
theorem dX11_makes_32 : decode cX11_makes 32 = .ok (.idiv, 1) := by decide +kernel
theorem dX11_makes_33 : decode cX11_makes 33 = .ok (.i2l, 1) := by decide +kernel
theorem dX11_makes_34 : decode cX11_makes 34 = .ok (.aload_n 0, 1) := by decide +kernel
theorem dX11_makes_35 : decode cX11_makes 35 = .ok (.iload 6, 2) := by decide +kernel
theorem dX11_makes_37 : decode cX11_makes 37 = .ok (.iload_n 2, 1) := by decide +kernel
theorem dX11_makes_38 : decode cX11_makes 38 = .ok (.bipush 10, 2) := by decide +kernel
theorem dX11_makes_40 : decode cX11_makes 40 = .ok (.irem, 1) := by decide +kernel
theorem dX11_makes_41 : decode cX11_makes 41 = .ok (.iconst 1, 1) := by decide +kernel
theorem dX11_makes_42 : decode cX11_makes 42 = .ok (.isub, 1) := by decide +kernel
theorem dX11_makes_43 : decode cX11_makes 43 = .ok (.invokevirtual 99, 3) := by decide +kernel
theorem dX11_makes_46 : decode cX11_makes 46 = .ok (.aload_n 0, 1) := by decide +kernel
theorem dX11_makes_47 : decode cX11_makes 47 = .ok (.iload 5, 2) := by decide +kernel
theorem dX11_makes_49 : decode cX11_makes 49 = .ok (.iload_n 2, 1) := by decide +kernel
theorem dX11_makes_50 : decode cX11_makes 50 = .ok (.bipush 10, 2) := by decide +kernel
theorem dX11_makes_52 : decode cX11_makes 52 = .ok (.irem, 1) := by decide +kernel
theorem dX11_makes_53 : decode cX11_makes 53 = .ok (.iconst 1, 1) := by decide +kernel
theorem dX11_makes_54 : decode cX11_makes 54 = .ok (.isub, 1) := by decide +kernel
theorem dX11_makes_55 : decode cX11_makes 55 = .ok (.invokevirtual 99, 3) := by decide +kernel
theorem dX11_makes_58 : decode cX11_makes 58 = .ok (.isub, 1) := by decide +kernel
theorem dX11_makes_59 : decode cX11_makes 59 = .ok (.i2l, 1) := by decide +kernel
theorem dX11_makes_60 : decode cX11_makes 60 = .ok (.lmul, 1) := by decide +kernel
theorem dX11_makes_61 : decode cX11_makes 61 = .ok (.lstore 7, 2) := by decide +kernel
theorem dX11_makes_63 : decode cX11_makes 63 = .ok (.lload 7, 2) := by decide +kernel
theorem dX11_makes_65 : decode cX11_makes 65 = .ok (.iload_n 3, 1) := by decide +kernel
theorem dX11_makes_66 : decode cX11_makes 66 = .ok (.ifCond .ne 7, 3) := by decide +kernel
theorem dX11_makes_69 : decode cX11_makes 69 = .ok (.lconst 0, 1) := by decide +kernel
theorem dX11_makes_70 : decode cX11_makes 70 = .ok (.goto 35, 3) := by decide +kernel
theorem dX11_makes_73 : decode cX11_makes 73 = .ok (.iload_n 3, 1) := by decide +kernel
theorem dX11_makes_74 : decode cX11_makes 74 = .ok (.bipush 10, 2) := by decide +kernel
theorem dX11_makes_76 : decode cX11_makes 76 = .ok (.idiv, 1) := by decide +kernel
theorem dX11_makes_77 : decode cX11_makes 77 = .ok (.i2l, 1) := by decide +kernel
theorem dX11_makes_78 : decode cX11_makes 78 = .ok (.aload_n 0, 1) := by decide +kernel
theorem dX11_makes_79 : decode cX11_makes 79 = .ok (.iload 6, 2) := by decide +kernel
theorem dX11_makes_81 : decode cX11_makes 81 = .ok (.iload_n 3, 1) := by decide +kernel
theorem dX11_makes_82 : decode cX11_makes 82 = .ok (.bipush 10, 2) := by decide +kernel
theorem dX11_makes_84 : decode cX11_makes 84 = .ok (.irem, 1) := by decide +kernel
theorem dX11_makes_85 : decode cX11_makes 85 = .ok (.iconst 1, 1) := by decide +kernel
theorem dX11_makes_86 : decode cX11_makes 86 = .ok (.isub, 1) := by decide +kernel
theorem dX11_makes_87 : decode cX11_makes 87 = .ok (.invokevirtual 99, 3) := by decide +kernel
theorem dX11_makes_90 : decode cX11_makes 90 = .ok (.aload_n 0, 1) := by decide +kernel
theorem dX11_makes_91 : decode cX11_makes 91 = .ok (.iload 5, 2) := by decide +kernel
theorem dX11_makes_93 : decode cX11_makes 93 = .ok (.iload_n 3, 1) := by decide +kernel
theorem dX11_makes_94 : decode cX11_makes 94 = .ok (.bipush 10, 2) := by decide +kernel
theorem dX11_makes_96 : decode cX11_makes 96 = .ok (.irem, 1) := by decide +kernel
theorem dX11_makes_97 : decode cX11_makes 97 = .ok (.iconst 1, 1) := by decide +kernel
theorem dX11_makes_98 : decode cX11_makes 98 = .ok (.isub, 1) := by decide +kernel
theorem dX11_makes_99 : decode cX11_makes 99 = .ok (.invokevirtual 99, 3) := by decide +kernel
theorem dX11_makes_102 : decode cX11_makes 102 = .ok (.isub, 1) := by decide +kernel
theorem dX11_makes_103 : decode cX11_makes 103 = .ok (.i2l, 1) := by decide +kernel
theorem dX11_makes_104 : decode cX11_makes 104 = .ok (.lmul, 1) := by decide +kernel
theorem dX11_makes_105 : decode cX11_makes 105 = .ok (.ladd, 1) := by decide +kernel
theorem dX11_makes_106 : decode cX11_makes 106 = .ok (.lstore 7, 2) := by decide +kernel
theorem dX11_makes_108 : decode cX11_makes 108 = .ok (.lload 7, 2) := by decide +kernel
theorem dX11_makes_110 : decode cX11_makes 110 = .ok (.lconst 0, 1) := by decide +kernel
theorem dX11_makes_111 : decode cX11_makes 111 = .ok (.lcmp, 1) := by decide +kernel
theorem dX11_makes_112 : decode cX11_makes 112 = .ok (.ifCond .lt 17, 3) := by decide +kernel
theorem dX11_makes_115 : decode cX11_makes 115 = .ok (.lload 7, 2) := by decide +kernel
theorem dX11_makes_117 : decode cX11_makes 117 = .ok (.lconst 0, 1) := by decide +kernel
theorem dX11_makes_118 : decode cX11_makes 118 = .ok (.lcmp, 1) := by decide +kernel
theorem dX11_makes_119 : decode cX11_makes 119 = .ok (.ifCond .ne 12, 3) := by decide +kernel
theorem dX11_makes_122 : decode cX11_makes 122 = .ok (.iload 5, 2) := by decide +kernel
theorem dX11_makes_124 : decode cX11_makes 124 = .ok (.iload 6, 2) := by decide +kernel
theorem dX11_makes_126 : decode cX11_makes 126 = .ok (.if_icmp .le 5, 3) := by decide +kernel
theorem dX11_makes_129 : decode cX11_makes 129 = .ok (.iconst 0, 1) := by decide +kernel
theorem dX11_makes_130 : decode cX11_makes 130 = .ok (.ireturn, 1) := by decide +kernel
theorem dX11_makes_131 : decode cX11_makes 131 = .ok (.iinc 4 1, 3) := by decide +kernel
theorem dX11_makes_134 : decode cX11_makes 134 = .ok (.goto (-131), 3) := by decide +kernel
theorem dX11_makes_137 : decode cX11_makes 137 = .ok (.iconst 1, 1) := by decide +kernel
theorem dX11_makes_138 : decode cX11_makes 138 = .ok (.ireturn, 1) := by decide +kernel
theorem dX11_termOf_0 : decode cX11_termOf 0 = .ok (.bipush 10, 2) := by decide +kernel
theorem dX11_termOf_2 : decode cX11_termOf 2 = .ok (.iload_n 0, 1) := by decide +kernel
theorem dX11_termOf_3 : decode cX11_termOf 3 = .ok (.iconst 4, 1) := by decide +kernel
theorem dX11_termOf_4 : decode cX11_termOf 4 = .ok (.irem, 1) := by decide +kernel
theorem dX11_termOf_5 : decode cX11_termOf 5 = .ok (.iconst 1, 1) := by decide +kernel
theorem dX11_termOf_6 : decode cX11_termOf 6 = .ok (.iadd, 1) := by decide +kernel
theorem dX11_termOf_7 : decode cX11_termOf 7 = .ok (.imul, 1) := by decide +kernel
theorem dX11_termOf_8 : decode cX11_termOf 8 = .ok (.iload_n 0, 1) := by decide +kernel
theorem dX11_termOf_9 : decode cX11_termOf 9 = .ok (.iconst 4, 1) := by decide +kernel
theorem dX11_termOf_10 : decode cX11_termOf 10 = .ok (.idiv, 1) := by decide +kernel
theorem dX11_termOf_11 : decode cX11_termOf 11 = .ok (.iadd, 1) := by decide +kernel
theorem dX11_termOf_12 : decode cX11_termOf 12 = .ok (.iconst 1, 1) := by decide +kernel
theorem dX11_termOf_13 : decode cX11_termOf 13 = .ok (.iadd, 1) := by decide +kernel
theorem dX11_termOf_14 : decode cX11_termOf 14 = .ok (.ireturn, 1) := by decide +kernel
theorem dX11_found_0 : decode cX11_found 0 = .ok (.iload_n 1, 1) := by decide +kernel
theorem dX11_found_1 : decode cX11_found 1 = .ok (.invokestatic 140, 3) := by decide +kernel
theorem dX11_found_4 : decode cX11_found 4 = .ok (.ifCond .eq 25, 3) := by decide +kernel
theorem dX11_found_7 : decode cX11_found 7 = .ok (.iload_n 2, 1) := by decide +kernel
theorem dX11_found_8 : decode cX11_found 8 = .ok (.invokestatic 143, 3) := by decide +kernel
theorem dX11_found_11 : decode cX11_found 11 = .ok (.ifCond .eq 18, 3) := by decide +kernel
theorem dX11_found_14 : decode cX11_found 14 = .ok (.iload 4, 2) := by decide +kernel
theorem dX11_found_16 : decode cX11_found 16 = .ok (.i2l, 1) := by decide +kernel
theorem dX11_found_17 : decode cX11_found 17 = .ok (.ldc2_w 138, 3) := by decide +kernel
theorem dX11_found_20 : decode cX11_found 20 = .ok (.ldc2_w 155, 3) := by decide +kernel
theorem dX11_found_23 : decode cX11_found 23 = .ok (.invokestatic 70, 3) := by decide +kernel
theorem dX11_found_26 : decode cX11_found 26 = .ok (.ifCond .ne 5, 3) := by decide +kernel
theorem dX11_found_29 : decode cX11_found 29 = .ok (.iconst (-1), 1) := by decide +kernel
theorem dX11_found_30 : decode cX11_found 30 = .ok (.ireturn, 1) := by decide +kernel
theorem dX11_found_31 : decode cX11_found 31 = .ok (.aload_n 0, 1) := by decide +kernel
theorem dX11_found_32 : decode cX11_found 32 = .ok (.iload_n 1, 1) := by decide +kernel
theorem dX11_found_33 : decode cX11_found 33 = .ok (.iload_n 2, 1) := by decide +kernel
theorem dX11_found_34 : decode cX11_found 34 = .ok (.iload_n 3, 1) := by decide +kernel
theorem dX11_found_35 : decode cX11_found 35 = .ok (.iload 4, 2) := by decide +kernel
theorem dX11_found_37 : decode cX11_found 37 = .ok (.invokevirtual 146, 3) := by decide +kernel
theorem dX11_found_40 : decode cX11_found 40 = .ok (.istore 5, 2) := by decide +kernel
theorem dX11_found_42 : decode cX11_found 42 = .ok (.iconst 0, 1) := by decide +kernel
theorem dX11_found_43 : decode cX11_found 43 = .ok (.istore 6, 2) := by decide +kernel
theorem dX11_found_45 : decode cX11_found 45 = .ok (.iload 6, 2) := by decide +kernel
theorem dX11_found_47 : decode cX11_found 47 = .ok (.iload 4, 2) := by decide +kernel
theorem dX11_found_49 : decode cX11_found 49 = .ok (.if_icmp .ge 53, 3) := by decide +kernel
theorem dX11_found_52 : decode cX11_found 52 = .ok (.iload 5, 2) := by decide +kernel
theorem dX11_found_54 : decode cX11_found 54 = .ok (.iconst 1, 1) := by decide +kernel
theorem dX11_found_55 : decode cX11_found 55 = .ok (.if_icmp .ne 47, 3) := by decide +kernel
theorem dX11_found_58 : decode cX11_found 58 = .ok (.aload_n 0, 1) := by decide +kernel
theorem dX11_found_59 : decode cX11_found 59 = .ok (.getfield 43, 3) := by decide +kernel
theorem dX11_found_62 : decode cX11_found 62 = .ok (.iload 6, 2) := by decide +kernel
theorem dX11_found_64 : decode cX11_found 64 = .ok (.aload_n 0, 1) := by decide +kernel
theorem dX11_found_65 : decode cX11_found 65 = .ok (.iload_n 1, 1) := by decide +kernel
theorem dX11_found_66 : decode cX11_found 66 = .ok (.iload_n 3, 1) := by decide +kernel
theorem dX11_found_67 : decode cX11_found 67 = .ok (.iload 6, 2) := by decide +kernel
theorem dX11_found_69 : decode cX11_found 69 = .ok (.iadd, 1) := by decide +kernel
theorem dX11_found_70 : decode cX11_found 70 = .ok (.invokevirtual 150, 3) := by decide +kernel
theorem dX11_found_73 : decode cX11_found 73 = .ok (.iastore, 1) := by decide +kernel
theorem dX11_found_74 : decode cX11_found 74 = .ok (.aload_n 0, 1) := by decide +kernel
theorem dX11_found_75 : decode cX11_found 75 = .ok (.aload_n 0, 1) := by decide +kernel
theorem dX11_found_76 : decode cX11_found 76 = .ok (.getfield 43, 3) := by decide +kernel
theorem dX11_found_79 : decode cX11_found 79 = .ok (.iload 6, 2) := by decide +kernel
theorem dX11_found_81 : decode cX11_found 81 = .ok (.iaload, 1) := by decide +kernel
theorem dX11_found_82 : decode cX11_found 82 = .ok (.invokevirtual 189, 3) := by decide +kernel
theorem dX11_found_85 : decode cX11_found 85 = .ok (.ifCond .eq 7, 3) := by decide +kernel
theorem dX11_found_88 : decode cX11_found 88 = .ok (.iconst 1, 1) := by decide +kernel
theorem dX11_found_89 : decode cX11_found 89 = .ok (.goto 5, 3) := by decide +kernel
theorem dX11_found_92 : decode cX11_found 92 = .ok (.bipush (-2), 2) := by decide +kernel
theorem dX11_found_94 : decode cX11_found 94 = .ok (.istore 5, 2) := by decide +kernel
theorem dX11_found_96 : decode cX11_found 96 = .ok (.iinc 6 1, 3) := by decide +kernel
theorem dX11_found_99 : decode cX11_found 99 = .ok (.goto (-54), 3) := by decide +kernel
theorem dX11_found_102 : decode cX11_found 102 = .ok (.iload 5, 2) := by decide +kernel
theorem dX11_found_104 : decode cX11_found 104 = .ok (.iconst 1, 1) := by decide +kernel
theorem dX11_found_105 : decode cX11_found 105 = .ok (.if_icmp .eq 6, 3) := by decide +kernel
theorem dX11_found_108 : decode cX11_found 108 = .ok (.iload 5, 2) := by decide +kernel
theorem dX11_found_110 : decode cX11_found 110 = .ok (.ireturn, 1) := by decide +kernel
theorem dX11_found_111 : decode cX11_found 111 = .ok (.aload_n 0, 1) := by decide +kernel
theorem dX11_found_112 : decode cX11_found 112 = .ok (.iload 4, 2) := by decide +kernel
theorem dX11_found_114 : decode cX11_found 114 = .ok (.invokevirtual 240, 3) := by decide +kernel
theorem dX11_found_117 : decode cX11_found 117 = .ok (.ifCond .eq 6, 3) := by decide +kernel
theorem dX11_found_120 : decode cX11_found 120 = .ok (.bipush (-2), 2) := by decide +kernel
theorem dX11_found_122 : decode cX11_found 122 = .ok (.ireturn, 1) := by decide +kernel
theorem dX11_found_123 : decode cX11_found 123 = .ok (.iconst 0, 1) := by decide +kernel
theorem dX11_found_124 : decode cX11_found 124 = .ok (.istore 6, 2) := by decide +kernel
theorem dX11_found_126 : decode cX11_found 126 = .ok (.iload 6, 2) := by decide +kernel
theorem dX11_found_128 : decode cX11_found 128 = .ok (.bipush 16, 2) := by decide +kernel
theorem dX11_found_130 : decode cX11_found 130 = .ok (.if_icmp .ge 30, 3) := by decide +kernel
theorem dX11_found_133 : decode cX11_found 133 = .ok (.aload_n 0, 1) := by decide +kernel
theorem dX11_found_134 : decode cX11_found 134 = .ok (.iload 4, 2) := by decide +kernel
theorem dX11_found_136 : decode cX11_found 136 = .ok (.iload 6, 2) := by decide +kernel
theorem dX11_found_138 : decode cX11_found 138 = .ok (.invokestatic 243, 3) := by decide +kernel
theorem dX11_found_141 : decode cX11_found 141 = .ok (.iconst 0, 1) := by decide +kernel
theorem dX11_found_142 : decode cX11_found 142 = .ok (.invokevirtual 246, 3) := by decide +kernel
theorem dX11_found_145 : decode cX11_found 145 = .ok (.ifCond .eq 9, 3) := by decide +kernel
theorem dX11_found_148 : decode cX11_found 148 = .ok (.iload 6, 2) := by decide +kernel
theorem dX11_found_150 : decode cX11_found 150 = .ok (.invokestatic 243, 3) := by decide +kernel
theorem dX11_found_153 : decode cX11_found 153 = .ok (.ireturn, 1) := by decide +kernel
theorem dX11_found_154 : decode cX11_found 154 = .ok (.iinc 6 1, 3) := by decide +kernel
theorem dX11_found_157 : decode cX11_found 157 = .ok (.goto (-31), 3) := by decide +kernel
theorem dX11_found_160 : decode cX11_found 160 = .ok (.iconst 0, 1) := by decide +kernel
theorem dX11_found_161 : decode cX11_found 161 = .ok (.istore 6, 2) := by decide +kernel
theorem dX11_found_163 : decode cX11_found 163 = .ok (.iload 6, 2) := by decide +kernel
theorem dX11_found_165 : decode cX11_found 165 = .ok (.sipush 256, 3) := by decide +kernel
theorem dX11_found_168 : decode cX11_found 168 = .ok (.if_icmp .ge 55, 3) := by decide +kernel
theorem dX11_found_171 : decode cX11_found 171 = .ok (.aload_n 0, 1) := by decide +kernel
theorem dX11_found_172 : decode cX11_found 172 = .ok (.iload 4, 2) := by decide +kernel
theorem dX11_found_174 : decode cX11_found 174 = .ok (.iload 6, 2) := by decide +kernel
theorem dX11_found_176 : decode cX11_found 176 = .ok (.bipush 16, 2) := by decide +kernel
theorem dX11_found_178 : decode cX11_found 178 = .ok (.idiv, 1) := by decide +kernel
theorem dX11_found_179 : decode cX11_found 179 = .ok (.invokestatic 243, 3) := by decide +kernel
theorem dX11_found_182 : decode cX11_found 182 = .ok (.iload 6, 2) := by decide +kernel
theorem dX11_found_184 : decode cX11_found 184 = .ok (.bipush 16, 2) := by decide +kernel
theorem dX11_found_186 : decode cX11_found 186 = .ok (.irem, 1) := by decide +kernel
theorem dX11_found_187 : decode cX11_found 187 = .ok (.invokestatic 243, 3) := by decide +kernel
theorem dX11_found_190 : decode cX11_found 190 = .ok (.invokevirtual 246, 3) := by decide +kernel
theorem dX11_found_193 : decode cX11_found 193 = .ok (.ifCond .eq 24, 3) := by decide +kernel
theorem dX11_found_196 : decode cX11_found 196 = .ok (.bipush 100, 2) := by decide +kernel
theorem dX11_found_198 : decode cX11_found 198 = .ok (.iload 6, 2) := by decide +kernel
theorem dX11_found_200 : decode cX11_found 200 = .ok (.bipush 16, 2) := by decide +kernel
theorem dX11_found_202 : decode cX11_found 202 = .ok (.idiv, 1) := by decide +kernel
theorem dX11_found_203 : decode cX11_found 203 = .ok (.invokestatic 243, 3) := by decide +kernel
theorem dX11_found_206 : decode cX11_found 206 = .ok (.imul, 1) := by decide +kernel
theorem dX11_found_207 : decode cX11_found 207 = .ok (.iload 6, 2) := by decide +kernel
theorem dX11_found_209 : decode cX11_found 209 = .ok (.bipush 16, 2) := by decide +kernel
theorem dX11_found_211 : decode cX11_found 211 = .ok (.irem, 1) := by decide +kernel
theorem dX11_found_212 : decode cX11_found 212 = .ok (.invokestatic 243, 3) := by decide +kernel
theorem dX11_found_215 : decode cX11_found 215 = .ok (.iadd, 1) := by decide +kernel
theorem dX11_found_216 : decode cX11_found 216 = .ok (.ireturn, 1) := by decide +kernel
theorem dX11_found_217 : decode cX11_found 217 = .ok (.iinc 6 1, 3) := by decide +kernel
theorem dX11_found_220 : decode cX11_found 220 = .ok (.goto (-57), 3) := by decide +kernel
theorem dX11_found_223 : decode cX11_found 223 = .ok (.bipush (-4), 2) := by decide +kernel
theorem dX11_found_225 : decode cX11_found 225 = .ok (.ireturn, 1) := by decide +kernel
theorem dX11_lates_0 : decode cX11_lates 0 = .ok (.iconst 0, 1) := by decide +kernel
theorem dX11_lates_1 : decode cX11_lates 1 = .ok (.istore_n 2, 1) := by decide +kernel
theorem dX11_lates_2 : decode cX11_lates 2 = .ok (.aload_n 0, 1) := by decide +kernel
theorem dX11_lates_3 : decode cX11_lates 3 = .ok (.getfield 111, 3) := by decide +kernel
theorem dX11_lates_6 : decode cX11_lates 6 = .ok (.istore_n 3, 1) := by decide +kernel
theorem dX11_lates_7 : decode cX11_lates 7 = .ok (.iconst 0, 1) := by decide +kernel
theorem dX11_lates_8 : decode cX11_lates 8 = .ok (.istore 4, 2) := by decide +kernel
theorem dX11_lates_10 : decode cX11_lates 10 = .ok (.iload 4, 2) := by decide +kernel
theorem dX11_lates_12 : decode cX11_lates 12 = .ok (.iload_n 1, 1) := by decide +kernel
theorem dX11_lates_13 : decode cX11_lates 13 = .ok (.if_icmp .ge 60, 3) := by decide +kernel
theorem dX11_lates_16 : decode cX11_lates 16 = .ok (.aload_n 0, 1) := by decide +kernel
theorem dX11_lates_17 : decode cX11_lates 17 = .ok (.getfield 43, 3) := by decide +kernel
theorem dX11_lates_20 : decode cX11_lates 20 = .ok (.aload_n 0, 1) := by decide +kernel
theorem dX11_lates_21 : decode cX11_lates 21 = .ok (.getfield 55, 3) := by decide +kernel
theorem dX11_lates_24 : decode cX11_lates 24 = .ok (.iload 4, 2) := by decide +kernel
theorem dX11_lates_26 : decode cX11_lates 26 = .ok (.iaload, 1) := by decide +kernel
theorem dX11_lates_27 : decode cX11_lates 27 = .ok (.iaload, 1) := by decide +kernel
theorem dX11_lates_28 : decode cX11_lates 28 = .ok (.istore 5, 2) := by decide +kernel
theorem dX11_lates_30 : decode cX11_lates 30 = .ok (.iload_n 3, 1) := by decide +kernel
theorem dX11_lates_31 : decode cX11_lates 31 = .ok (.aload_n 0, 1) := by decide +kernel
theorem dX11_lates_32 : decode cX11_lates 32 = .ok (.iload 5, 2) := by decide +kernel
theorem dX11_lates_34 : decode cX11_lates 34 = .ok (.iconst 1, 1) := by decide +kernel
theorem dX11_lates_35 : decode cX11_lates 35 = .ok (.invokevirtual 99, 3) := by decide +kernel
theorem dX11_lates_38 : decode cX11_lates 38 = .ok (.iadd, 1) := by decide +kernel
theorem dX11_lates_39 : decode cX11_lates 39 = .ok (.istore_n 3, 1) := by decide +kernel
theorem dX11_lates_40 : decode cX11_lates 40 = .ok (.iload_n 2, 1) := by decide +kernel
theorem dX11_lates_41 : decode cX11_lates 41 = .ok (.iload_n 3, 1) := by decide +kernel
theorem dX11_lates_42 : decode cX11_lates 42 = .ok (.aload_n 0, 1) := by decide +kernel
theorem dX11_lates_43 : decode cX11_lates 43 = .ok (.iload 5, 2) := by decide +kernel
theorem dX11_lates_45 : decode cX11_lates 45 = .ok (.iconst 3, 1) := by decide +kernel
theorem dX11_lates_46 : decode cX11_lates 46 = .ok (.invokevirtual 99, 3) := by decide +kernel
theorem dX11_lates_49 : decode cX11_lates 49 = .ok (.if_icmp .le 15, 3) := by decide +kernel
theorem dX11_lates_52 : decode cX11_lates 52 = .ok (.iload_n 3, 1) := by decide +kernel
theorem dX11_lates_53 : decode cX11_lates 53 = .ok (.aload_n 0, 1) := by decide +kernel
theorem dX11_lates_54 : decode cX11_lates 54 = .ok (.iload 5, 2) := by decide +kernel
theorem dX11_lates_56 : decode cX11_lates 56 = .ok (.iconst 3, 1) := by decide +kernel
theorem dX11_lates_57 : decode cX11_lates 57 = .ok (.invokevirtual 99, 3) := by decide +kernel
theorem dX11_lates_60 : decode cX11_lates 60 = .ok (.isub, 1) := by decide +kernel
theorem dX11_lates_61 : decode cX11_lates 61 = .ok (.goto 4, 3) := by decide +kernel
theorem dX11_lates_64 : decode cX11_lates 64 = .ok (.iconst 0, 1) := by decide +kernel
theorem dX11_lates_65 : decode cX11_lates 65 = .ok (.iadd, 1) := by decide +kernel
theorem dX11_lates_66 : decode cX11_lates 66 = .ok (.istore_n 2, 1) := by decide +kernel
theorem dX11_lates_67 : decode cX11_lates 67 = .ok (.iinc 4 1, 3) := by decide +kernel
theorem dX11_lates_70 : decode cX11_lates 70 = .ok (.goto (-60), 3) := by decide +kernel
theorem dX11_lates_73 : decode cX11_lates 73 = .ok (.iload_n 2, 1) := by decide +kernel
theorem dX11_lates_74 : decode cX11_lates 74 = .ok (.ireturn, 1) := by decide +kernel
theorem dX11_isNew_0 : decode cX11_isNew 0 = .ok (.iconst 1, 1) := by decide +kernel
theorem dX11_isNew_1 : decode cX11_isNew 1 = .ok (.istore_n 2, 1) := by decide +kernel
theorem dX11_isNew_2 : decode cX11_isNew 2 = .ok (.iconst 0, 1) := by decide +kernel
theorem dX11_isNew_3 : decode cX11_isNew 3 = .ok (.istore_n 3, 1) := by decide +kernel
theorem dX11_isNew_4 : decode cX11_isNew 4 = .ok (.iload_n 3, 1) := by decide +kernel
theorem dX11_isNew_5 : decode cX11_isNew 5 = .ok (.iload_n 1, 1) := by decide +kernel
theorem dX11_isNew_6 : decode cX11_isNew 6 = .ok (.if_icmp .ge 34, 3) := by decide +kernel
theorem dX11_isNew_9 : decode cX11_isNew 9 = .ok (.iload_n 2, 1) := by decide +kernel
theorem dX11_isNew_10 : decode cX11_isNew 10 = .ok (.ifCond .eq 22, 3) := by decide +kernel
theorem dX11_isNew_13 : decode cX11_isNew 13 = .ok (.aload_n 0, 1) := by decide +kernel
theorem dX11_isNew_14 : decode cX11_isNew 14 = .ok (.getfield 55, 3) := by decide +kernel
theorem dX11_isNew_17 : decode cX11_isNew 17 = .ok (.iload_n 3, 1) := by decide +kernel
theorem dX11_isNew_18 : decode cX11_isNew 18 = .ok (.iaload, 1) := by decide +kernel
theorem dX11_isNew_19 : decode cX11_isNew 19 = .ok (.aload_n 0, 1) := by decide +kernel
theorem dX11_isNew_20 : decode cX11_isNew 20 = .ok (.getfield 55, 3) := by decide +kernel
theorem dX11_isNew_23 : decode cX11_isNew 23 = .ok (.iload_n 1, 1) := by decide +kernel
theorem dX11_isNew_24 : decode cX11_isNew 24 = .ok (.iaload, 1) := by decide +kernel
theorem dX11_isNew_25 : decode cX11_isNew 25 = .ok (.if_icmp .eq 7, 3) := by decide +kernel
theorem dX11_isNew_28 : decode cX11_isNew 28 = .ok (.iconst 1, 1) := by decide +kernel
theorem dX11_isNew_29 : decode cX11_isNew 29 = .ok (.goto 4, 3) := by decide +kernel
theorem dX11_isNew_32 : decode cX11_isNew 32 = .ok (.iconst 0, 1) := by decide +kernel
theorem dX11_isNew_33 : decode cX11_isNew 33 = .ok (.istore_n 2, 1) := by decide +kernel
theorem dX11_isNew_34 : decode cX11_isNew 34 = .ok (.iinc 3 1, 3) := by decide +kernel
theorem dX11_isNew_37 : decode cX11_isNew 37 = .ok (.goto (-33), 3) := by decide +kernel
theorem dX11_isNew_40 : decode cX11_isNew 40 = .ok (.iload_n 2, 1) := by decide +kernel
theorem dX11_isNew_41 : decode cX11_isNew 41 = .ok (.ireturn, 1) := by decide +kernel
theorem dX11_leastOf_0 : decode cX11_leastOf 0 = .ok (.bipush (-4), 2) := by decide +kernel
theorem dX11_leastOf_2 : decode cX11_leastOf 2 = .ok (.istore_n 2, 1) := by decide +kernel
theorem dX11_leastOf_3 : decode cX11_leastOf 3 = .ok (.iconst 0, 1) := by decide +kernel
theorem dX11_leastOf_4 : decode cX11_leastOf 4 = .ok (.istore_n 3, 1) := by decide +kernel
theorem dX11_leastOf_5 : decode cX11_leastOf 5 = .ok (.aload_n 0, 1) := by decide +kernel
theorem dX11_leastOf_6 : decode cX11_leastOf 6 = .ok (.getfield 55, 3) := by decide +kernel
theorem dX11_leastOf_9 : decode cX11_leastOf 9 = .ok (.iconst 0, 1) := by decide +kernel
theorem dX11_leastOf_10 : decode cX11_leastOf 10 = .ok (.iconst (-1), 1) := by decide +kernel
theorem dX11_leastOf_11 : decode cX11_leastOf 11 = .ok (.iastore, 1) := by decide +kernel
theorem dX11_leastOf_12 : decode cX11_leastOf 12 = .ok (.iload_n 3, 1) := by decide +kernel
theorem dX11_leastOf_13 : decode cX11_leastOf 13 = .ok (.ifCond .lt 116, 3) := by decide +kernel
theorem dX11_leastOf_16 : decode cX11_leastOf 16 = .ok (.aload_n 0, 1) := by decide +kernel
theorem dX11_leastOf_17 : decode cX11_leastOf 17 = .ok (.getfield 55, 3) := by decide +kernel
theorem dX11_leastOf_20 : decode cX11_leastOf 20 = .ok (.iload_n 3, 1) := by decide +kernel
theorem dX11_leastOf_21 : decode cX11_leastOf 21 = .ok (.dup2, 1) := by decide +kernel
theorem dX11_leastOf_22 : decode cX11_leastOf 22 = .ok (.iaload, 1) := by decide +kernel
theorem dX11_leastOf_23 : decode cX11_leastOf 23 = .ok (.iconst 1, 1) := by decide +kernel
theorem dX11_leastOf_24 : decode cX11_leastOf 24 = .ok (.iadd, 1) := by decide +kernel
theorem dX11_leastOf_25 : decode cX11_leastOf 25 = .ok (.iastore, 1) := by decide +kernel
theorem dX11_leastOf_26 : decode cX11_leastOf 26 = .ok (.aload_n 0, 1) := by decide +kernel
theorem dX11_leastOf_27 : decode cX11_leastOf 27 = .ok (.getfield 55, 3) := by decide +kernel
theorem dX11_leastOf_30 : decode cX11_leastOf 30 = .ok (.iload_n 3, 1) := by decide +kernel
theorem dX11_leastOf_31 : decode cX11_leastOf 31 = .ok (.iaload, 1) := by decide +kernel
theorem dX11_leastOf_32 : decode cX11_leastOf 32 = .ok (.iload_n 1, 1) := by decide +kernel
theorem dX11_leastOf_33 : decode cX11_leastOf 33 = .ok (.if_icmp .ne 9, 3) := by decide +kernel
theorem dX11_leastOf_36 : decode cX11_leastOf 36 = .ok (.iinc 3 (-1), 3) := by decide +kernel
theorem dX11_leastOf_39 : decode cX11_leastOf 39 = .ok (.goto (-27), 3) := by decide +kernel
theorem dX11_leastOf_42 : decode cX11_leastOf 42 = .ok (.aload_n 0, 1) := by decide +kernel
theorem dX11_leastOf_43 : decode cX11_leastOf 43 = .ok (.iload_n 3, 1) := by decide +kernel
theorem dX11_leastOf_44 : decode cX11_leastOf 44 = .ok (.invokevirtual 250, 3) := by decide +kernel
theorem dX11_leastOf_47 : decode cX11_leastOf 47 = .ok (.ifCond .eq (-35), 3) := by decide +kernel
theorem dX11_leastOf_50 : decode cX11_leastOf 50 = .ok (.iload_n 3, 1) := by decide +kernel
theorem dX11_leastOf_51 : decode cX11_leastOf 51 = .ok (.iconst 1, 1) := by decide +kernel
theorem dX11_leastOf_52 : decode cX11_leastOf 52 = .ok (.iadd, 1) := by decide +kernel
theorem dX11_leastOf_53 : decode cX11_leastOf 53 = .ok (.iload_n 1, 1) := by decide +kernel
theorem dX11_leastOf_54 : decode cX11_leastOf 54 = .ok (.if_icmp .ge 16, 3) := by decide +kernel
theorem dX11_leastOf_57 : decode cX11_leastOf 57 = .ok (.iinc 3 1, 3) := by decide +kernel
theorem dX11_leastOf_60 : decode cX11_leastOf 60 = .ok (.aload_n 0, 1) := by decide +kernel
theorem dX11_leastOf_61 : decode cX11_leastOf 61 = .ok (.getfield 55, 3) := by decide +kernel
theorem dX11_leastOf_64 : decode cX11_leastOf 64 = .ok (.iload_n 3, 1) := by decide +kernel
theorem dX11_leastOf_65 : decode cX11_leastOf 65 = .ok (.iconst (-1), 1) := by decide +kernel
theorem dX11_leastOf_66 : decode cX11_leastOf 66 = .ok (.iastore, 1) := by decide +kernel
theorem dX11_leastOf_67 : decode cX11_leastOf 67 = .ok (.goto (-55), 3) := by decide +kernel
theorem dX11_leastOf_70 : decode cX11_leastOf 70 = .ok (.aload_n 0, 1) := by decide +kernel
theorem dX11_leastOf_71 : decode cX11_leastOf 71 = .ok (.iload_n 1, 1) := by decide +kernel
theorem dX11_leastOf_72 : decode cX11_leastOf 72 = .ok (.invokevirtual 253, 3) := by decide +kernel
theorem dX11_leastOf_75 : decode cX11_leastOf 75 = .ok (.istore 4, 2) := by decide +kernel
theorem dX11_leastOf_77 : decode cX11_leastOf 77 = .ok (.iload_n 2, 1) := by decide +kernel
theorem dX11_leastOf_78 : decode cX11_leastOf 78 = .ok (.bipush (-4), 2) := by decide +kernel
theorem dX11_leastOf_80 : decode cX11_leastOf 80 = .ok (.if_icmp .eq 9, 3) := by decide +kernel
theorem dX11_leastOf_83 : decode cX11_leastOf 83 = .ok (.iload 4, 2) := by decide +kernel
theorem dX11_leastOf_85 : decode cX11_leastOf 85 = .ok (.iload_n 2, 1) := by decide +kernel
theorem dX11_leastOf_86 : decode cX11_leastOf 86 = .ok (.if_icmp .ge 40, 3) := by decide +kernel
theorem dX11_leastOf_89 : decode cX11_leastOf 89 = .ok (.iload 4, 2) := by decide +kernel
theorem dX11_leastOf_91 : decode cX11_leastOf 91 = .ok (.istore_n 2, 1) := by decide +kernel
theorem dX11_leastOf_92 : decode cX11_leastOf 92 = .ok (.iconst 0, 1) := by decide +kernel
theorem dX11_leastOf_93 : decode cX11_leastOf 93 = .ok (.istore 5, 2) := by decide +kernel
theorem dX11_leastOf_95 : decode cX11_leastOf 95 = .ok (.iload 5, 2) := by decide +kernel
theorem dX11_leastOf_97 : decode cX11_leastOf 97 = .ok (.iload_n 1, 1) := by decide +kernel
theorem dX11_leastOf_98 : decode cX11_leastOf 98 = .ok (.if_icmp .ge 28, 3) := by decide +kernel
theorem dX11_leastOf_101 : decode cX11_leastOf 101 = .ok (.aload_n 0, 1) := by decide +kernel
theorem dX11_leastOf_102 : decode cX11_leastOf 102 = .ok (.getfield 58, 3) := by decide +kernel
theorem dX11_leastOf_105 : decode cX11_leastOf 105 = .ok (.iload 5, 2) := by decide +kernel
theorem dX11_leastOf_107 : decode cX11_leastOf 107 = .ok (.aload_n 0, 1) := by decide +kernel
theorem dX11_leastOf_108 : decode cX11_leastOf 108 = .ok (.getfield 43, 3) := by decide +kernel
theorem dX11_leastOf_111 : decode cX11_leastOf 111 = .ok (.aload_n 0, 1) := by decide +kernel
theorem dX11_leastOf_112 : decode cX11_leastOf 112 = .ok (.getfield 55, 3) := by decide +kernel
theorem dX11_leastOf_115 : decode cX11_leastOf 115 = .ok (.iload 5, 2) := by decide +kernel
theorem dX11_leastOf_117 : decode cX11_leastOf 117 = .ok (.iaload, 1) := by decide +kernel
theorem dX11_leastOf_118 : decode cX11_leastOf 118 = .ok (.iaload, 1) := by decide +kernel
theorem dX11_leastOf_119 : decode cX11_leastOf 119 = .ok (.iastore, 1) := by decide +kernel
theorem dX11_leastOf_120 : decode cX11_leastOf 120 = .ok (.iinc 5 1, 3) := by decide +kernel
theorem dX11_leastOf_123 : decode cX11_leastOf 123 = .ok (.goto (-28), 3) := by decide +kernel
theorem dX11_leastOf_126 : decode cX11_leastOf 126 = .ok (.goto (-114), 3) := by decide +kernel
theorem dX11_leastOf_129 : decode cX11_leastOf 129 = .ok (.iload_n 2, 1) := by decide +kernel
theorem dX11_leastOf_130 : decode cX11_leastOf 130 = .ok (.ireturn, 1) := by decide +kernel
theorem dX11_order_0 : decode cX11_order 0 = .ok (.iload_n 1, 1) := by decide +kernel
theorem dX11_order_1 : decode cX11_order 1 = .ok (.invokestatic 140, 3) := by decide +kernel
theorem dX11_order_4 : decode cX11_order 4 = .ok (.ifCond .eq 40, 3) := by decide +kernel
theorem dX11_order_7 : decode cX11_order 7 = .ok (.iload_n 2, 1) := by decide +kernel
theorem dX11_order_8 : decode cX11_order 8 = .ok (.invokestatic 143, 3) := by decide +kernel
theorem dX11_order_11 : decode cX11_order 11 = .ok (.ifCond .eq 33, 3) := by decide +kernel
theorem dX11_order_14 : decode cX11_order 14 = .ok (.iload 4, 2) := by decide +kernel
theorem dX11_order_16 : decode cX11_order 16 = .ok (.i2l, 1) := by decide +kernel
theorem dX11_order_17 : decode cX11_order 17 = .ok (.lconst 1, 1) := by decide +kernel
theorem dX11_order_18 : decode cX11_order 18 = .ok (.ldc2_w 256, 3) := by decide +kernel
theorem dX11_order_21 : decode cX11_order 21 = .ok (.invokestatic 70, 3) := by decide +kernel
theorem dX11_order_24 : decode cX11_order 24 = .ok (.ifCond .eq 20, 3) := by decide +kernel
theorem dX11_order_27 : decode cX11_order 27 = .ok (.iload 5, 2) := by decide +kernel
theorem dX11_order_29 : decode cX11_order 29 = .ok (.i2l, 1) := by decide +kernel
theorem dX11_order_30 : decode cX11_order 30 = .ok (.ldc2_w 258, 3) := by decide +kernel
theorem dX11_order_33 : decode cX11_order 33 = .ok (.iload 4, 2) := by decide +kernel
theorem dX11_order_35 : decode cX11_order 35 = .ok (.iconst 1, 1) := by decide +kernel
theorem dX11_order_36 : decode cX11_order 36 = .ok (.isub, 1) := by decide +kernel
theorem dX11_order_37 : decode cX11_order 37 = .ok (.i2l, 1) := by decide +kernel
theorem dX11_order_38 : decode cX11_order 38 = .ok (.invokestatic 70, 3) := by decide +kernel
theorem dX11_order_41 : decode cX11_order 41 = .ok (.ifCond .ne 5, 3) := by decide +kernel
theorem dX11_order_44 : decode cX11_order 44 = .ok (.iconst (-1), 1) := by decide +kernel
theorem dX11_order_45 : decode cX11_order 45 = .ok (.ireturn, 1) := by decide +kernel
theorem dX11_order_46 : decode cX11_order 46 = .ok (.aload_n 0, 1) := by decide +kernel
theorem dX11_order_47 : decode cX11_order 47 = .ok (.iload_n 1, 1) := by decide +kernel
theorem dX11_order_48 : decode cX11_order 48 = .ok (.iload_n 2, 1) := by decide +kernel
theorem dX11_order_49 : decode cX11_order 49 = .ok (.iload_n 3, 1) := by decide +kernel
theorem dX11_order_50 : decode cX11_order 50 = .ok (.iload 4, 2) := by decide +kernel
theorem dX11_order_52 : decode cX11_order 52 = .ok (.invokevirtual 146, 3) := by decide +kernel
theorem dX11_order_55 : decode cX11_order 55 = .ok (.istore 6, 2) := by decide +kernel
theorem dX11_order_57 : decode cX11_order 57 = .ok (.iconst 0, 1) := by decide +kernel
theorem dX11_order_58 : decode cX11_order 58 = .ok (.istore 7, 2) := by decide +kernel
theorem dX11_order_60 : decode cX11_order 60 = .ok (.iload 7, 2) := by decide +kernel
theorem dX11_order_62 : decode cX11_order 62 = .ok (.iload 4, 2) := by decide +kernel
theorem dX11_order_64 : decode cX11_order 64 = .ok (.if_icmp .ge 69, 3) := by decide +kernel
theorem dX11_order_67 : decode cX11_order 67 = .ok (.iload 6, 2) := by decide +kernel
theorem dX11_order_69 : decode cX11_order 69 = .ok (.iconst 1, 1) := by decide +kernel
theorem dX11_order_70 : decode cX11_order 70 = .ok (.if_icmp .ne 63, 3) := by decide +kernel
theorem dX11_order_73 : decode cX11_order 73 = .ok (.aload_n 0, 1) := by decide +kernel
theorem dX11_order_74 : decode cX11_order 74 = .ok (.getfield 43, 3) := by decide +kernel
theorem dX11_order_77 : decode cX11_order 77 = .ok (.iload 7, 2) := by decide +kernel
theorem dX11_order_79 : decode cX11_order 79 = .ok (.aload_n 0, 1) := by decide +kernel
theorem dX11_order_80 : decode cX11_order 80 = .ok (.iload_n 1, 1) := by decide +kernel
theorem dX11_order_81 : decode cX11_order 81 = .ok (.iload_n 3, 1) := by decide +kernel
theorem dX11_order_82 : decode cX11_order 82 = .ok (.iload 7, 2) := by decide +kernel
theorem dX11_order_84 : decode cX11_order 84 = .ok (.iadd, 1) := by decide +kernel
theorem dX11_order_85 : decode cX11_order 85 = .ok (.invokevirtual 150, 3) := by decide +kernel
theorem dX11_order_88 : decode cX11_order 88 = .ok (.iastore, 1) := by decide +kernel
theorem dX11_order_89 : decode cX11_order 89 = .ok (.aload_n 0, 1) := by decide +kernel
theorem dX11_order_90 : decode cX11_order 90 = .ok (.aload_n 0, 1) := by decide +kernel
theorem dX11_order_91 : decode cX11_order 91 = .ok (.getfield 43, 3) := by decide +kernel
theorem dX11_order_94 : decode cX11_order 94 = .ok (.iload 7, 2) := by decide +kernel
theorem dX11_order_96 : decode cX11_order 96 = .ok (.iaload, 1) := by decide +kernel
theorem dX11_order_97 : decode cX11_order 97 = .ok (.invokevirtual 189, 3) := by decide +kernel
theorem dX11_order_100 : decode cX11_order 100 = .ok (.ifCond .eq 23, 3) := by decide +kernel
theorem dX11_order_103 : decode cX11_order 103 = .ok (.aload_n 0, 1) := by decide +kernel
theorem dX11_order_104 : decode cX11_order 104 = .ok (.aload_n 0, 1) := by decide +kernel
theorem dX11_order_105 : decode cX11_order 105 = .ok (.getfield 43, 3) := by decide +kernel
theorem dX11_order_108 : decode cX11_order 108 = .ok (.iload 7, 2) := by decide +kernel
theorem dX11_order_110 : decode cX11_order 110 = .ok (.iaload, 1) := by decide +kernel
theorem dX11_order_111 : decode cX11_order 111 = .ok (.bipush 9, 2) := by decide +kernel
theorem dX11_order_113 : decode cX11_order 113 = .ok (.invokevirtual 99, 3) := by decide +kernel
theorem dX11_order_116 : decode cX11_order 116 = .ok (.ifCond .ne 7, 3) := by decide +kernel
theorem dX11_order_119 : decode cX11_order 119 = .ok (.iconst 1, 1) := by decide +kernel
theorem dX11_order_120 : decode cX11_order 120 = .ok (.goto 5, 3) := by decide +kernel
theorem dX11_order_123 : decode cX11_order 123 = .ok (.bipush (-2), 2) := by decide +kernel
theorem dX11_order_125 : decode cX11_order 125 = .ok (.istore 6, 2) := by decide +kernel
theorem dX11_order_127 : decode cX11_order 127 = .ok (.iinc 7 1, 3) := by decide +kernel
theorem dX11_order_130 : decode cX11_order 130 = .ok (.goto (-70), 3) := by decide +kernel
theorem dX11_order_133 : decode cX11_order 133 = .ok (.iload 6, 2) := by decide +kernel
theorem dX11_order_135 : decode cX11_order 135 = .ok (.iconst 1, 1) := by decide +kernel
theorem dX11_order_136 : decode cX11_order 136 = .ok (.if_icmp .eq 6, 3) := by decide +kernel
theorem dX11_order_139 : decode cX11_order 139 = .ok (.iload 6, 2) := by decide +kernel
theorem dX11_order_141 : decode cX11_order 141 = .ok (.ireturn, 1) := by decide +kernel
theorem dX11_order_142 : decode cX11_order 142 = .ok (.aload_n 0, 1) := by decide +kernel
theorem dX11_order_143 : decode cX11_order 143 = .ok (.iload 4, 2) := by decide +kernel
theorem dX11_order_145 : decode cX11_order 145 = .ok (.invokevirtual 240, 3) := by decide +kernel
theorem dX11_order_148 : decode cX11_order 148 = .ok (.ifCond .eq 6, 3) := by decide +kernel
theorem dX11_order_151 : decode cX11_order 151 = .ok (.bipush (-2), 2) := by decide +kernel
theorem dX11_order_153 : decode cX11_order 153 = .ok (.ireturn, 1) := by decide +kernel
theorem dX11_order_154 : decode cX11_order 154 = .ok (.iconst 1, 1) := by decide +kernel
theorem dX11_order_155 : decode cX11_order 155 = .ok (.istore 7, 2) := by decide +kernel
theorem dX11_order_157 : decode cX11_order 157 = .ok (.iload 7, 2) := by decide +kernel
theorem dX11_order_159 : decode cX11_order 159 = .ok (.iload 4, 2) := by decide +kernel
theorem dX11_order_161 : decode cX11_order 161 = .ok (.if_icmp .ge 79, 3) := by decide +kernel
theorem dX11_order_164 : decode cX11_order 164 = .ok (.iload 7, 2) := by decide +kernel
theorem dX11_order_166 : decode cX11_order 166 = .ok (.istore 8, 2) := by decide +kernel
theorem dX11_order_168 : decode cX11_order 168 = .ok (.iload 8, 2) := by decide +kernel
theorem dX11_order_170 : decode cX11_order 170 = .ok (.ifCond .le 64, 3) := by decide +kernel
theorem dX11_order_173 : decode cX11_order 173 = .ok (.aload_n 0, 1) := by decide +kernel
theorem dX11_order_174 : decode cX11_order 174 = .ok (.getfield 43, 3) := by decide +kernel
theorem dX11_order_177 : decode cX11_order 177 = .ok (.iload 8, 2) := by decide +kernel
theorem dX11_order_179 : decode cX11_order 179 = .ok (.iconst 1, 1) := by decide +kernel
theorem dX11_order_180 : decode cX11_order 180 = .ok (.isub, 1) := by decide +kernel
theorem dX11_order_181 : decode cX11_order 181 = .ok (.iaload, 1) := by decide +kernel
theorem dX11_order_182 : decode cX11_order 182 = .ok (.aload_n 0, 1) := by decide +kernel
theorem dX11_order_183 : decode cX11_order 183 = .ok (.getfield 43, 3) := by decide +kernel
theorem dX11_order_186 : decode cX11_order 186 = .ok (.iload 8, 2) := by decide +kernel
theorem dX11_order_188 : decode cX11_order 188 = .ok (.iaload, 1) := by decide +kernel
theorem dX11_order_189 : decode cX11_order 189 = .ok (.if_icmp .le 45, 3) := by decide +kernel
theorem dX11_order_192 : decode cX11_order 192 = .ok (.aload_n 0, 1) := by decide +kernel
theorem dX11_order_193 : decode cX11_order 193 = .ok (.getfield 43, 3) := by decide +kernel
theorem dX11_order_196 : decode cX11_order 196 = .ok (.iload 8, 2) := by decide +kernel
theorem dX11_order_198 : decode cX11_order 198 = .ok (.iaload, 1) := by decide +kernel
theorem dX11_order_199 : decode cX11_order 199 = .ok (.istore 9, 2) := by decide +kernel
theorem dX11_order_201 : decode cX11_order 201 = .ok (.aload_n 0, 1) := by decide +kernel
theorem dX11_order_202 : decode cX11_order 202 = .ok (.getfield 43, 3) := by decide +kernel
theorem dX11_order_205 : decode cX11_order 205 = .ok (.iload 8, 2) := by decide +kernel
theorem dX11_order_207 : decode cX11_order 207 = .ok (.aload_n 0, 1) := by decide +kernel
theorem dX11_order_208 : decode cX11_order 208 = .ok (.getfield 43, 3) := by decide +kernel
theorem dX11_order_211 : decode cX11_order 211 = .ok (.iload 8, 2) := by decide +kernel
theorem dX11_order_213 : decode cX11_order 213 = .ok (.iconst 1, 1) := by decide +kernel
theorem dX11_order_214 : decode cX11_order 214 = .ok (.isub, 1) := by decide +kernel
theorem dX11_order_215 : decode cX11_order 215 = .ok (.iaload, 1) := by decide +kernel
theorem dX11_order_216 : decode cX11_order 216 = .ok (.iastore, 1) := by decide +kernel
theorem dX11_order_217 : decode cX11_order 217 = .ok (.aload_n 0, 1) := by decide +kernel
theorem dX11_order_218 : decode cX11_order 218 = .ok (.getfield 43, 3) := by decide +kernel
theorem dX11_order_221 : decode cX11_order 221 = .ok (.iload 8, 2) := by decide +kernel
theorem dX11_order_223 : decode cX11_order 223 = .ok (.iconst 1, 1) := by decide +kernel
theorem dX11_order_224 : decode cX11_order 224 = .ok (.isub, 1) := by decide +kernel
theorem dX11_order_225 : decode cX11_order 225 = .ok (.iload 9, 2) := by decide +kernel
theorem dX11_order_227 : decode cX11_order 227 = .ok (.iastore, 1) := by decide +kernel
theorem dX11_order_228 : decode cX11_order 228 = .ok (.iinc 8 (-1), 3) := by decide +kernel
theorem dX11_order_231 : decode cX11_order 231 = .ok (.goto (-63), 3) := by decide +kernel
theorem dX11_order_234 : decode cX11_order 234 = .ok (.iinc 7 1, 3) := by decide +kernel
theorem dX11_order_237 : decode cX11_order 237 = .ok (.goto (-80), 3) := by decide +kernel
theorem dX11_order_240 : decode cX11_order 240 = .ok (.aload_n 0, 1) := by decide +kernel
theorem dX11_order_241 : decode cX11_order 241 = .ok (.iload 4, 2) := by decide +kernel
theorem dX11_order_243 : decode cX11_order 243 = .ok (.invokevirtual 260, 3) := by decide +kernel
theorem dX11_order_246 : decode cX11_order 246 = .ok (.istore 7, 2) := by decide +kernel
theorem dX11_order_248 : decode cX11_order 248 = .ok (.iload 5, 2) := by decide +kernel
theorem dX11_order_250 : decode cX11_order 250 = .ok (.iconst (-1), 1) := by decide +kernel
theorem dX11_order_251 : decode cX11_order 251 = .ok (.if_icmp .ne 8, 3) := by decide +kernel
theorem dX11_order_254 : decode cX11_order 254 = .ok (.iload 7, 2) := by decide +kernel
theorem dX11_order_256 : decode cX11_order 256 = .ok (.goto 10, 3) := by decide +kernel
theorem dX11_order_259 : decode cX11_order 259 = .ok (.aload_n 0, 1) := by decide +kernel
theorem dX11_order_260 : decode cX11_order 260 = .ok (.getfield 58, 3) := by decide +kernel
theorem dX11_order_263 : decode cX11_order 263 = .ok (.iload 5, 2) := by decide +kernel
theorem dX11_order_265 : decode cX11_order 265 = .ok (.iaload, 1) := by decide +kernel
theorem dX11_order_266 : decode cX11_order 266 = .ok (.ireturn, 1) := by decide +kernel
