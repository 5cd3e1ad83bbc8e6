theorem dX3_keepIfLess_93 : decode cX3_keepIfLess 93 = .ok (.goto 4, 3) := by decide +kernel
theorem dX3_keepIfLess_96 : decode cX3_keepIfLess 96 = .ok (.iconst 0, 1) := by decide +kernel
theorem dX3_keepIfLess_97 : decode cX3_keepIfLess 97 = .ok (.istore 6, 2) := by decide +kernel
theorem dX3_keepIfLess_99 : decode cX3_keepIfLess 99 = .ok (.aload_n 0, 1) := by decide +kernel
theorem dX3_keepIfLess_100 : decode cX3_keepIfLess 100 = .ok (.getfield 20, 3) := by decide +kernel
theorem dX3_keepIfLess_103 : decode cX3_keepIfLess 103 = .ok (.iload 7, 2) := by decide +kernel
theorem dX3_keepIfLess_105 : decode cX3_keepIfLess 105 = .ok (.iload 8, 2) := by decide +kernel
theorem dX3_keepIfLess_107 : decode cX3_keepIfLess 107 = .ok (.iastore, 1) := by decide +kernel
theorem dX3_keepIfLess_108 : decode cX3_keepIfLess 108 = .ok (.iinc 7 1, 3) := by decide +kernel
theorem dX3_keepIfLess_111 : decode cX3_keepIfLess 111 = .ok (.goto (-85), 3) := by decide +kernel
theorem dX3_keepIfLess_114 : decode cX3_keepIfLess 114 = .ok (.return_, 1) := by decide +kernel
theorem dX4_init_0 : decode cX4_init 0 = .ok (.aload_n 0, 1) := by decide +kernel
theorem dX4_init_1 : decode cX4_init 1 = .ok (.invokespecial 1, 3) := by decide +kernel
theorem dX4_init_4 : decode cX4_init 4 = .ok (.aload_n 0, 1) := by decide +kernel
theorem dX4_init_5 : decode cX4_init 5 = .ok (.sipush 256, 3) := by decide +kernel
theorem dX4_init_8 : decode cX4_init 8 = .ok (.newarray .int, 2) := by decide +kernel
theorem dX4_init_10 : decode cX4_init 10 = .ok (.putfield 7, 3) := by decide +kernel
theorem dX4_init_13 : decode cX4_init 13 = .ok (.aload_n 0, 1) := by decide +kernel
theorem dX4_init_14 : decode cX4_init 14 = .ok (.sipush 256, 3) := by decide +kernel
theorem dX4_init_17 : decode cX4_init 17 = .ok (.newarray .int, 2) := by decide +kernel
theorem dX4_init_19 : decode cX4_init 19 = .ok (.putfield 13, 3) := by decide +kernel
theorem dX4_init_22 : decode cX4_init 22 = .ok (.aload_n 0, 1) := by decide +kernel
theorem dX4_init_23 : decode cX4_init 23 = .ok (.bipush 64, 2) := by decide +kernel
theorem dX4_init_25 : decode cX4_init 25 = .ok (.newarray .int, 2) := by decide +kernel
theorem dX4_init_27 : decode cX4_init 27 = .ok (.putfield 16, 3) := by decide +kernel
theorem dX4_init_30 : decode cX4_init 30 = .ok (.aload_n 0, 1) := by decide +kernel
theorem dX4_init_31 : decode cX4_init 31 = .ok (.bipush 16, 2) := by decide +kernel
theorem dX4_init_33 : decode cX4_init 33 = .ok (.newarray .int, 2) := by decide +kernel
theorem dX4_init_35 : decode cX4_init 35 = .ok (.putfield 19, 3) := by decide +kernel
theorem dX4_init_38 : decode cX4_init 38 = .ok (.aload_n 0, 1) := by decide +kernel
theorem dX4_init_39 : decode cX4_init 39 = .ok (.bipush 16, 2) := by decide +kernel
theorem dX4_init_41 : decode cX4_init 41 = .ok (.newarray .int, 2) := by decide +kernel
theorem dX4_init_43 : decode cX4_init 43 = .ok (.putfield 22, 3) := by decide +kernel
theorem dX4_init_46 : decode cX4_init 46 = .ok (.aload_n 0, 1) := by decide +kernel
theorem dX4_init_47 : decode cX4_init 47 = .ok (.bipush 8, 2) := by decide +kernel
theorem dX4_init_49 : decode cX4_init 49 = .ok (.newarray .int, 2) := by decide +kernel
theorem dX4_init_51 : decode cX4_init 51 = .ok (.putfield 25, 3) := by decide +kernel
theorem dX4_init_54 : decode cX4_init 54 = .ok (.aload_n 0, 1) := by decide +kernel
theorem dX4_init_55 : decode cX4_init 55 = .ok (.iconst 5, 1) := by decide +kernel
theorem dX4_init_56 : decode cX4_init 56 = .ok (.invokevirtual 28, 3) := by decide +kernel
theorem dX4_init_59 : decode cX4_init 59 = .ok (.return_, 1) := by decide +kernel
theorem dX4_in_0 : decode cX4_in 0 = .ok (.iload_n 0, 1) := by decide +kernel
theorem dX4_in_1 : decode cX4_in 1 = .ok (.iload_n 1, 1) := by decide +kernel
theorem dX4_in_2 : decode cX4_in 2 = .ok (.if_icmp .lt 12, 3) := by decide +kernel
theorem dX4_in_5 : decode cX4_in 5 = .ok (.iload_n 0, 1) := by decide +kernel
theorem dX4_in_6 : decode cX4_in 6 = .ok (.iload_n 2, 1) := by decide +kernel
theorem dX4_in_7 : decode cX4_in 7 = .ok (.if_icmp .gt 7, 3) := by decide +kernel
theorem dX4_in_10 : decode cX4_in 10 = .ok (.iconst 1, 1) := by decide +kernel
theorem dX4_in_11 : decode cX4_in 11 = .ok (.goto 4, 3) := by decide +kernel
theorem dX4_in_14 : decode cX4_in 14 = .ok (.iconst 0, 1) := by decide +kernel
theorem dX4_in_15 : decode cX4_in 15 = .ok (.ireturn, 1) := by decide +kernel
theorem dX4_sumOf_0 : decode cX4_sumOf 0 = .ok (.iconst 0, 1) := by decide +kernel
theorem dX4_sumOf_1 : decode cX4_sumOf 1 = .ok (.istore_n 3, 1) := by decide +kernel
theorem dX4_sumOf_2 : decode cX4_sumOf 2 = .ok (.iconst 1, 1) := by decide +kernel
theorem dX4_sumOf_3 : decode cX4_sumOf 3 = .ok (.istore 4, 2) := by decide +kernel
theorem dX4_sumOf_5 : decode cX4_sumOf 5 = .ok (.iload_n 1, 1) := by decide +kernel
theorem dX4_sumOf_6 : decode cX4_sumOf 6 = .ok (.istore 5, 2) := by decide +kernel
theorem dX4_sumOf_8 : decode cX4_sumOf 8 = .ok (.iload_n 2, 1) := by decide +kernel
theorem dX4_sumOf_9 : decode cX4_sumOf 9 = .ok (.istore 6, 2) := by decide +kernel
theorem dX4_sumOf_11 : decode cX4_sumOf 11 = .ok (.iload 5, 2) := by decide +kernel
theorem dX4_sumOf_13 : decode cX4_sumOf 13 = .ok (.ifCond .gt 8, 3) := by decide +kernel
theorem dX4_sumOf_16 : decode cX4_sumOf 16 = .ok (.iload 6, 2) := by decide +kernel
theorem dX4_sumOf_18 : decode cX4_sumOf 18 = .ok (.ifCond .le 59, 3) := by decide +kernel
theorem dX4_sumOf_21 : decode cX4_sumOf 21 = .ok (.iload_n 3, 1) := by decide +kernel
theorem dX4_sumOf_22 : decode cX4_sumOf 22 = .ok (.iload 4, 2) := by decide +kernel
theorem dX4_sumOf_24 : decode cX4_sumOf 24 = .ok (.iload 5, 2) := by decide +kernel
theorem dX4_sumOf_26 : decode cX4_sumOf 26 = .ok (.aload_n 0, 1) := by decide +kernel
theorem dX4_sumOf_27 : decode cX4_sumOf 27 = .ok (.getfield 36, 3) := by decide +kernel
theorem dX4_sumOf_30 : decode cX4_sumOf 30 = .ok (.irem, 1) := by decide +kernel
theorem dX4_sumOf_31 : decode cX4_sumOf 31 = .ok (.iload 6, 2) := by decide +kernel
theorem dX4_sumOf_33 : decode cX4_sumOf 33 = .ok (.aload_n 0, 1) := by decide +kernel
theorem dX4_sumOf_34 : decode cX4_sumOf 34 = .ok (.getfield 36, 3) := by decide +kernel
theorem dX4_sumOf_37 : decode cX4_sumOf 37 = .ok (.irem, 1) := by decide +kernel
theorem dX4_sumOf_38 : decode cX4_sumOf 38 = .ok (.iadd, 1) := by decide +kernel
theorem dX4_sumOf_39 : decode cX4_sumOf 39 = .ok (.aload_n 0, 1) := by decide +kernel
theorem dX4_sumOf_40 : decode cX4_sumOf 40 = .ok (.getfield 36, 3) := by decide +kernel
theorem dX4_sumOf_43 : decode cX4_sumOf 43 = .ok (.irem, 1) := by decide +kernel
theorem dX4_sumOf_44 : decode cX4_sumOf 44 = .ok (.imul, 1) := by decide +kernel
theorem dX4_sumOf_45 : decode cX4_sumOf 45 = .ok (.iadd, 1) := by decide +kernel
theorem dX4_sumOf_46 : decode cX4_sumOf 46 = .ok (.istore_n 3, 1) := by decide +kernel
theorem dX4_sumOf_47 : decode cX4_sumOf 47 = .ok (.iload 5, 2) := by decide +kernel
theorem dX4_sumOf_49 : decode cX4_sumOf 49 = .ok (.aload_n 0, 1) := by decide +kernel
theorem dX4_sumOf_50 : decode cX4_sumOf 50 = .ok (.getfield 36, 3) := by decide +kernel
theorem dX4_sumOf_53 : decode cX4_sumOf 53 = .ok (.idiv, 1) := by decide +kernel
theorem dX4_sumOf_54 : decode cX4_sumOf 54 = .ok (.istore 5, 2) := by decide +kernel
theorem dX4_sumOf_56 : decode cX4_sumOf 56 = .ok (.iload 6, 2) := by decide +kernel
theorem dX4_sumOf_58 : decode cX4_sumOf 58 = .ok (.aload_n 0, 1) := by decide +kernel
theorem dX4_sumOf_59 : decode cX4_sumOf 59 = .ok (.getfield 36, 3) := by decide +kernel
theorem dX4_sumOf_62 : decode cX4_sumOf 62 = .ok (.idiv, 1) := by decide +kernel
theorem dX4_sumOf_63 : decode cX4_sumOf 63 = .ok (.istore 6, 2) := by decide +kernel
theorem dX4_sumOf_65 : decode cX4_sumOf 65 = .ok (.iload 4, 2) := by decide +kernel
theorem dX4_sumOf_67 : decode cX4_sumOf 67 = .ok (.aload_n 0, 1) := by decide +kernel
theorem dX4_sumOf_68 : decode cX4_sumOf 68 = .ok (.getfield 36, 3) := by decide +kernel
theorem dX4_sumOf_71 : decode cX4_sumOf 71 = .ok (.imul, 1) := by decide +kernel
theorem dX4_sumOf_72 : decode cX4_sumOf 72 = .ok (.istore 4, 2) := by decide +kernel
theorem dX4_sumOf_74 : decode cX4_sumOf 74 = .ok (.goto (-63), 3) := by decide +kernel
theorem dX4_sumOf_77 : decode cX4_sumOf 77 = .ok (.iload_n 3, 1) := by decide +kernel
theorem dX4_sumOf_78 : decode cX4_sumOf 78 = .ok (.ireturn, 1) := by decide +kernel
theorem dX4_productOf_0 : decode cX4_productOf 0 = .ok (.aload_n 0, 1) := by decide +kernel
theorem dX4_productOf_1 : decode cX4_productOf 1 = .ok (.getfield 36, 3) := by decide +kernel
theorem dX4_productOf_4 : decode cX4_productOf 4 = .ok (.aload_n 0, 1) := by decide +kernel
theorem dX4_productOf_5 : decode cX4_productOf 5 = .ok (.getfield 39, 3) := by decide +kernel
theorem dX4_productOf_8 : decode cX4_productOf 8 = .ok (.if_icmp .ne 12, 3) := by decide +kernel
theorem dX4_productOf_11 : decode cX4_productOf 11 = .ok (.iload_n 1, 1) := by decide +kernel
theorem dX4_productOf_12 : decode cX4_productOf 12 = .ok (.iload_n 2, 1) := by decide +kernel
theorem dX4_productOf_13 : decode cX4_productOf 13 = .ok (.imul, 1) := by decide +kernel
theorem dX4_productOf_14 : decode cX4_productOf 14 = .ok (.aload_n 0, 1) := by decide +kernel
theorem dX4_productOf_15 : decode cX4_productOf 15 = .ok (.getfield 36, 3) := by decide +kernel
theorem dX4_productOf_18 : decode cX4_productOf 18 = .ok (.irem, 1) := by decide +kernel
theorem dX4_productOf_19 : decode cX4_productOf 19 = .ok (.ireturn, 1) := by decide +kernel
theorem dX4_productOf_20 : decode cX4_productOf 20 = .ok (.iconst 0, 1) := by decide +kernel
theorem dX4_productOf_21 : decode cX4_productOf 21 = .ok (.istore_n 3, 1) := by decide +kernel
theorem dX4_productOf_22 : decode cX4_productOf 22 = .ok (.iload_n 3, 1) := by decide +kernel
theorem dX4_productOf_23 : decode cX4_productOf 23 = .ok (.bipush 8, 2) := by decide +kernel
theorem dX4_productOf_25 : decode cX4_productOf 25 = .ok (.if_icmp .ge 16, 3) := by decide +kernel
theorem dX4_productOf_28 : decode cX4_productOf 28 = .ok (.aload_n 0, 1) := by decide +kernel
theorem dX4_productOf_29 : decode cX4_productOf 29 = .ok (.getfield 25, 3) := by decide +kernel
theorem dX4_productOf_32 : decode cX4_productOf 32 = .ok (.iload_n 3, 1) := by decide +kernel
theorem dX4_productOf_33 : decode cX4_productOf 33 = .ok (.iconst 0, 1) := by decide +kernel
theorem dX4_productOf_34 : decode cX4_productOf 34 = .ok (.iastore, 1) := by decide +kernel
theorem dX4_productOf_35 : decode cX4_productOf 35 = .ok (.iinc 3 1, 3) := by decide +kernel
theorem dX4_productOf_38 : decode cX4_productOf 38 = .ok (.goto (-16), 3) := by decide +kernel
theorem dX4_productOf_41 : decode cX4_productOf 41 = .ok (.iload_n 1, 1) := by decide +kernel
theorem dX4_productOf_42 : decode cX4_productOf 42 = .ok (.istore_n 3, 1) := by decide +kernel
theorem dX4_productOf_43 : decode cX4_productOf 43 = .ok (.iconst 0, 1) := by decide +kernel
theorem dX4_productOf_44 : decode cX4_productOf 44 = .ok (.istore 4, 2) := by decide +kernel
theorem dX4_productOf_46 : decode cX4_productOf 46 = .ok (.iload_n 3, 1) := by decide +kernel
theorem dX4_productOf_47 : decode cX4_productOf 47 = .ok (.ifCond .le 82, 3) := by decide +kernel
theorem dX4_productOf_50 : decode cX4_productOf 50 = .ok (.iload_n 2, 1) := by decide +kernel
theorem dX4_productOf_51 : decode cX4_productOf 51 = .ok (.istore 5, 2) := by decide +kernel
theorem dX4_productOf_53 : decode cX4_productOf 53 = .ok (.iconst 0, 1) := by decide +kernel
theorem dX4_productOf_54 : decode cX4_productOf 54 = .ok (.istore 6, 2) := by decide +kernel
theorem dX4_productOf_56 : decode cX4_productOf 56 = .ok (.iload 5, 2) := by decide +kernel
theorem dX4_productOf_58 : decode cX4_productOf 58 = .ok (.ifCond .le 58, 3) := by decide +kernel
theorem dX4_productOf_61 : decode cX4_productOf 61 = .ok (.aload_n 0, 1) := by decide +kernel
theorem dX4_productOf_62 : decode cX4_productOf 62 = .ok (.getfield 25, 3) := by decide +kernel
theorem dX4_productOf_65 : decode cX4_productOf 65 = .ok (.iload 4, 2) := by decide +kernel
theorem dX4_productOf_67 : decode cX4_productOf 67 = .ok (.iload 6, 2) := by decide +kernel
theorem dX4_productOf_69 : decode cX4_productOf 69 = .ok (.iadd, 1) := by decide +kernel
theorem dX4_productOf_70 : decode cX4_productOf 70 = .ok (.aload_n 0, 1) := by decide +kernel
theorem dX4_productOf_71 : decode cX4_productOf 71 = .ok (.getfield 25, 3) := by decide +kernel
theorem dX4_productOf_74 : decode cX4_productOf 74 = .ok (.iload 4, 2) := by decide +kernel
theorem dX4_productOf_76 : decode cX4_productOf 76 = .ok (.iload 6, 2) := by decide +kernel
theorem dX4_productOf_78 : decode cX4_productOf 78 = .ok (.iadd, 1) := by decide +kernel
theorem dX4_productOf_79 : decode cX4_productOf 79 = .ok (.iaload, 1) := by decide +kernel
theorem dX4_productOf_80 : decode cX4_productOf 80 = .ok (.iload_n 3, 1) := by decide +kernel
theorem dX4_productOf_81 : decode cX4_productOf 81 = .ok (.aload_n 0, 1) := by decide +kernel
theorem dX4_productOf_82 : decode cX4_productOf 82 = .ok (.getfield 36, 3) := by decide +kernel
theorem dX4_productOf_85 : decode cX4_productOf 85 = .ok (.irem, 1) := by decide +kernel
theorem dX4_productOf_86 : decode cX4_productOf 86 = .ok (.iload 5, 2) := by decide +kernel
theorem dX4_productOf_88 : decode cX4_productOf 88 = .ok (.aload_n 0, 1) := by decide +kernel
theorem dX4_productOf_89 : decode cX4_productOf 89 = .ok (.getfield 36, 3) := by decide +kernel
theorem dX4_productOf_92 : decode cX4_productOf 92 = .ok (.irem, 1) := by decide +kernel
theorem dX4_productOf_93 : decode cX4_productOf 93 = .ok (.imul, 1) := by decide +kernel
theorem dX4_productOf_94 : decode cX4_productOf 94 = .ok (.iadd, 1) := by decide +kernel
theorem dX4_productOf_95 : decode cX4_productOf 95 = .ok (.aload_n 0, 1) := by decide +kernel
theorem dX4_productOf_96 : decode cX4_productOf 96 = .ok (.getfield 36, 3) := by decide +kernel
theorem dX4_productOf_99 : decode cX4_productOf 99 = .ok (.irem, 1) := by decide +kernel
theorem dX4_productOf_100 : decode cX4_productOf 100 = .ok (.iastore, 1) := by decide +kernel
theorem dX4_productOf_101 : decode cX4_productOf 101 = .ok (.iload 5, 2) := by decide +kernel
theorem dX4_productOf_103 : decode cX4_productOf 103 = .ok (.aload_n 0, 1) := by decide +kernel
theorem dX4_productOf_104 : decode cX4_productOf 104 = .ok (.getfield 36, 3) := by decide +kernel
theorem dX4_productOf_107 : decode cX4_productOf 107 = .ok (.idiv, 1) := by decide +kernel
theorem dX4_productOf_108 : decode cX4_productOf 108 = .ok (.istore 5, 2) := by decide +kernel
theorem dX4_productOf_110 : decode cX4_productOf 110 = .ok (.iinc 6 1, 3) := by decide +kernel
theorem dX4_productOf_113 : decode cX4_productOf 113 = .ok (.goto (-57), 3) := by decide +kernel
theorem dX4_productOf_116 : decode cX4_productOf 116 = .ok (.iload_n 3, 1) := by decide +kernel
theorem dX4_productOf_117 : decode cX4_productOf 117 = .ok (.aload_n 0, 1) := by decide +kernel
theorem dX4_productOf_118 : decode cX4_productOf 118 = .ok (.getfield 36, 3) := by decide +kernel
theorem dX4_productOf_121 : decode cX4_productOf 121 = .ok (.idiv, 1) := by decide +kernel
theorem dX4_productOf_122 : decode cX4_productOf 122 = .ok (.istore_n 3, 1) := by decide +kernel
theorem dX4_productOf_123 : decode cX4_productOf 123 = .ok (.iinc 4 1, 3) := by decide +kernel
theorem dX4_productOf_126 : decode cX4_productOf 126 = .ok (.goto (-80), 3) := by decide +kernel
theorem dX4_productOf_129 : decode cX4_productOf 129 = .ok (.aload_n 0, 1) := by decide +kernel
theorem dX4_productOf_130 : decode cX4_productOf 130 = .ok (.getfield 39, 3) := by decide +kernel
theorem dX4_productOf_133 : decode cX4_productOf 133 = .ok (.iconst 4, 1) := by decide +kernel
theorem dX4_productOf_134 : decode cX4_productOf 134 = .ok (.if_icmp .eq 12, 3) := by decide +kernel
theorem dX4_productOf_137 : decode cX4_productOf 137 = .ok (.aload_n 0, 1) := by decide +kernel
theorem dX4_productOf_138 : decode cX4_productOf 138 = .ok (.getfield 39, 3) := by decide +kernel
theorem dX4_productOf_141 : decode cX4_productOf 141 = .ok (.bipush 9, 2) := by decide +kernel
theorem dX4_productOf_143 : decode cX4_productOf 143 = .ok (.if_icmp .ne 7, 3) := by decide +kernel
theorem dX4_productOf_146 : decode cX4_productOf 146 = .ok (.iconst 2, 1) := by decide +kernel
theorem dX4_productOf_147 : decode cX4_productOf 147 = .ok (.goto 17, 3) := by decide +kernel
theorem dX4_productOf_150 : decode cX4_productOf 150 = .ok (.aload_n 0, 1) := by decide +kernel
theorem dX4_productOf_151 : decode cX4_productOf 151 = .ok (.getfield 39, 3) := by decide +kernel
theorem dX4_productOf_154 : decode cX4_productOf 154 = .ok (.bipush 8, 2) := by decide +kernel
theorem dX4_productOf_156 : decode cX4_productOf 156 = .ok (.if_icmp .ne 7, 3) := by decide +kernel
theorem dX4_productOf_159 : decode cX4_productOf 159 = .ok (.iconst 3, 1) := by decide +kernel
theorem dX4_productOf_160 : decode cX4_productOf 160 = .ok (.goto 4, 3) := by decide +kernel
theorem dX4_productOf_163 : decode cX4_productOf 163 = .ok (.iconst 4, 1) := by decide +kernel
theorem dX4_productOf_164 : decode cX4_productOf 164 = .ok (.istore 4, 2) := by decide +kernel
theorem dX4_productOf_166 : decode cX4_productOf 166 = .ok (.bipush 7, 2) := by decide +kernel
theorem dX4_productOf_168 : decode cX4_productOf 168 = .ok (.istore 5, 2) := by decide +kernel
theorem dX4_productOf_170 : decode cX4_productOf 170 = .ok (.iload 5, 2) := by decide +kernel
theorem dX4_productOf_172 : decode cX4_productOf 172 = .ok (.iload 4, 2) := by decide +kernel
theorem dX4_productOf_174 : decode cX4_productOf 174 = .ok (.if_icmp .lt 105, 3) := by decide +kernel
theorem dX4_productOf_177 : decode cX4_productOf 177 = .ok (.aload_n 0, 1) := by decide +kernel
theorem dX4_productOf_178 : decode cX4_productOf 178 = .ok (.getfield 25, 3) := by decide +kernel
theorem dX4_productOf_181 : decode cX4_productOf 181 = .ok (.iload 5, 2) := by decide +kernel
theorem dX4_productOf_183 : decode cX4_productOf 183 = .ok (.iaload, 1) := by decide +kernel
theorem dX4_productOf_184 : decode cX4_productOf 184 = .ok (.istore 6, 2) := by decide +kernel
theorem dX4_productOf_186 : decode cX4_productOf 186 = .ok (.aload_n 0, 1) := by decide +kernel
theorem dX4_productOf_187 : decode cX4_productOf 187 = .ok (.getfield 25, 3) := by decide +kernel
theorem dX4_productOf_190 : decode cX4_productOf 190 = .ok (.iload 5, 2) := by decide +kernel
theorem dX4_productOf_192 : decode cX4_productOf 192 = .ok (.iconst 0, 1) := by decide +kernel
theorem dX4_productOf_193 : decode cX4_productOf 193 = .ok (.iastore, 1) := by decide +kernel
theorem dX4_productOf_194 : decode cX4_productOf 194 = .ok (.aload_n 0, 1) := by decide +kernel
theorem dX4_productOf_195 : decode cX4_productOf 195 = .ok (.getfield 25, 3) := by decide +kernel
theorem dX4_productOf_198 : decode cX4_productOf 198 = .ok (.iload 5, 2) := by decide +kernel
theorem dX4_productOf_200 : decode cX4_productOf 200 = .ok (.iload 4, 2) := by decide +kernel
theorem dX4_productOf_202 : decode cX4_productOf 202 = .ok (.isub, 1) := by decide +kernel
theorem dX4_productOf_203 : decode cX4_productOf 203 = .ok (.aload_n 0, 1) := by decide +kernel
theorem dX4_productOf_204 : decode cX4_productOf 204 = .ok (.getfield 25, 3) := by decide +kernel
theorem dX4_productOf_207 : decode cX4_productOf 207 = .ok (.iload 5, 2) := by decide +kernel
theorem dX4_productOf_209 : decode cX4_productOf 209 = .ok (.iload 4, 2) := by decide +kernel
theorem dX4_productOf_211 : decode cX4_productOf 211 = .ok (.isub, 1) := by decide +kernel
theorem dX4_productOf_212 : decode cX4_productOf 212 = .ok (.iaload, 1) := by decide +kernel
theorem dX4_productOf_213 : decode cX4_productOf 213 = .ok (.aload_n 0, 1) := by decide +kernel
theorem dX4_productOf_214 : decode cX4_productOf 214 = .ok (.getfield 36, 3) := by decide +kernel
theorem dX4_productOf_217 : decode cX4_productOf 217 = .ok (.iload 6, 2) := by decide +kernel
theorem dX4_productOf_219 : decode cX4_productOf 219 = .ok (.isub, 1) := by decide +kernel
theorem dX4_productOf_220 : decode cX4_productOf 220 = .ok (.iadd, 1) := by decide +kernel
theorem dX4_productOf_221 : decode cX4_productOf 221 = .ok (.aload_n 0, 1) := by decide +kernel
theorem dX4_productOf_222 : decode cX4_productOf 222 = .ok (.getfield 36, 3) := by decide +kernel
theorem dX4_productOf_225 : decode cX4_productOf 225 = .ok (.irem, 1) := by decide +kernel
theorem dX4_productOf_226 : decode cX4_productOf 226 = .ok (.iastore, 1) := by decide +kernel
theorem dX4_productOf_227 : decode cX4_productOf 227 = .ok (.aload_n 0, 1) := by decide +kernel
theorem dX4_productOf_228 : decode cX4_productOf 228 = .ok (.getfield 39, 3) := by decide +kernel
theorem dX4_productOf_231 : decode cX4_productOf 231 = .ok (.bipush 9, 2) := by decide +kernel
theorem dX4_productOf_233 : decode cX4_productOf 233 = .ok (.if_icmp .eq 40, 3) := by decide +kernel
theorem dX4_productOf_236 : decode cX4_productOf 236 = .ok (.aload_n 0, 1) := by decide +kernel
theorem dX4_productOf_237 : decode cX4_productOf 237 = .ok (.getfield 25, 3) := by decide +kernel
theorem dX4_productOf_240 : decode cX4_productOf 240 = .ok (.iload 5, 2) := by decide +kernel
theorem dX4_productOf_242 : decode cX4_productOf 242 = .ok (.iload 4, 2) := by decide +kernel
theorem dX4_productOf_244 : decode cX4_productOf 244 = .ok (.isub, 1) := by decide +kernel
theorem dX4_productOf_245 : decode cX4_productOf 245 = .ok (.iconst 1, 1) := by decide +kernel
theorem dX4_productOf_246 : decode cX4_productOf 246 = .ok (.iadd, 1) := by decide +kernel
theorem dX4_productOf_247 : decode cX4_productOf 247 = .ok (.aload_n 0, 1) := by decide +kernel
theorem dX4_productOf_248 : decode cX4_productOf 248 = .ok (.getfield 25, 3) := by decide +kernel
theorem dX4_productOf_251 : decode cX4_productOf 251 = .ok (.iload 5, 2) := by decide +kernel
theorem dX4_productOf_253 : decode cX4_productOf 253 = .ok (.iload 4, 2) := by decide +kernel
theorem dX4_productOf_255 : decode cX4_productOf 255 = .ok (.isub, 1) := by decide +kernel
theorem dX4_productOf_256 : decode cX4_productOf 256 = .ok (.iconst 1, 1) := by decide +kernel
theorem dX4_productOf_257 : decode cX4_productOf 257 = .ok (.iadd, 1) := by decide +kernel
theorem dX4_productOf_258 : decode cX4_productOf 258 = .ok (.iaload, 1) := by decide +kernel
theorem dX4_productOf_259 : decode cX4_productOf 259 = .ok (.aload_n 0, 1) := by decide +kernel
theorem dX4_productOf_260 : decode cX4_productOf 260 = .ok (.getfield 36, 3) := by decide +kernel
theorem dX4_productOf_263 : decode cX4_productOf 263 = .ok (.iload 6, 2) := by decide +kernel
theorem dX4_productOf_265 : decode cX4_productOf 265 = .ok (.isub, 1) := by decide +kernel
theorem dX4_productOf_266 : decode cX4_productOf 266 = .ok (.iadd, 1) := by decide +kernel
theorem dX4_productOf_267 : decode cX4_productOf 267 = .ok (.aload_n 0, 1) := by decide +kernel
theorem dX4_productOf_268 : decode cX4_productOf 268 = .ok (.getfield 36, 3) := by decide +kernel
theorem dX4_productOf_271 : decode cX4_productOf 271 = .ok (.irem, 1) := by decide +kernel
theorem dX4_productOf_272 : decode cX4_productOf 272 = .ok (.iastore, 1) := by decide +kernel
theorem dX4_productOf_273 : decode cX4_productOf 273 = .ok (.iinc 5 (-1), 3) := by decide +kernel
theorem dX4_productOf_276 : decode cX4_productOf 276 = .ok (.goto (-106), 3) := by decide +kernel
theorem dX4_productOf_279 : decode cX4_productOf 279 = .ok (.iconst 0, 1) := by decide +kernel
theorem dX4_productOf_280 : decode cX4_productOf 280 = .ok (.istore 5, 2) := by decide +kernel
theorem dX4_productOf_282 : decode cX4_productOf 282 = .ok (.iload 4, 2) := by decide +kernel
theorem dX4_productOf_284 : decode cX4_productOf 284 = .ok (.iconst 1, 1) := by decide +kernel
theorem dX4_productOf_285 : decode cX4_productOf 285 = .ok (.isub, 1) := by decide +kernel
theorem dX4_productOf_286 : decode cX4_productOf 286 = .ok (.istore 6, 2) := by decide +kernel
theorem dX4_productOf_288 : decode cX4_productOf 288 = .ok (.iload 6, 2) := by decide +kernel
theorem dX4_productOf_290 : decode cX4_productOf 290 = .ok (.ifCond .lt 26, 3) := by decide +kernel
theorem dX4_productOf_293 : decode cX4_productOf 293 = .ok (.aload_n 0, 1) := by decide +kernel
theorem dX4_productOf_294 : decode cX4_productOf 294 = .ok (.getfield 36, 3) := by decide +kernel
theorem dX4_productOf_297 : decode cX4_productOf 297 = .ok (.iload 5, 2) := by decide +kernel
theorem dX4_productOf_299 : decode cX4_productOf 299 = .ok (.imul, 1) := by decide +kernel
theorem dX4_productOf_300 : decode cX4_productOf 300 = .ok (.aload_n 0, 1) := by decide +kernel
theorem dX4_productOf_301 : decode cX4_productOf 301 = .ok (.getfield 25, 3) := by decide +kernel
theorem dX4_productOf_304 : decode cX4_productOf 304 = .ok (.iload 6, 2) := by decide +kernel
theorem dX4_productOf_306 : decode cX4_productOf 306 = .ok (.iaload, 1) := by decide +kernel
theorem dX4_productOf_307 : decode cX4_productOf 307 = .ok (.iadd, 1) := by decide +kernel
theorem dX4_productOf_308 : decode cX4_productOf 308 = .ok (.istore 5, 2) := by decide +kernel
theorem dX4_productOf_310 : decode cX4_productOf 310 = .ok (.iinc 6 (-1), 3) := by decide +kernel
theorem dX4_productOf_313 : decode cX4_productOf 313 = .ok (.goto (-25), 3) := by decide +kernel
theorem dX4_productOf_316 : decode cX4_productOf 316 = .ok (.iload 5, 2) := by decide +kernel
theorem dX4_productOf_318 : decode cX4_productOf 318 = .ok (.ireturn, 1) := by decide +kernel
theorem dX4_begins_0 : decode cX4_begins 0 = .ok (.aload_n 0, 1) := by decide +kernel
theorem dX4_begins_1 : decode cX4_begins 1 = .ok (.iload_n 1, 1) := by decide +kernel
theorem dX4_begins_2 : decode cX4_begins 2 = .ok (.putfield 39, 3) := by decide +kernel
theorem dX4_begins_5 : decode cX4_begins 5 = .ok (.aload_n 0, 1) := by decide +kernel
theorem dX4_begins_6 : decode cX4_begins 6 = .ok (.aload_n 0, 1) := by decide +kernel
theorem dX4_begins_7 : decode cX4_begins 7 = .ok (.getfield 39, 3) := by decide +kernel
theorem dX4_begins_10 : decode cX4_begins 10 = .ok (.iconst 4, 1) := by decide +kernel
theorem dX4_begins_11 : decode cX4_begins 11 = .ok (.if_icmp .eq 21, 3) := by decide +kernel
theorem dX4_begins_14 : decode cX4_begins 14 = .ok (.aload_n 0, 1) := by decide +kernel
theorem dX4_begins_15 : decode cX4_begins 15 = .ok (.getfield 39, 3) := by decide +kernel
theorem dX4_begins_18 : decode cX4_begins 18 = .ok (.bipush 8, 2) := by decide +kernel
theorem dX4_begins_20 : decode cX4_begins 20 = .ok (.if_icmp .eq 12, 3) := by decide +kernel
theorem dX4_begins_23 : decode cX4_begins 23 = .ok (.aload_n 0, 1) := by decide +kernel
theorem dX4_begins_24 : decode cX4_begins 24 = .ok (.getfield 39, 3) := by decide +kernel
theorem dX4_begins_27 : decode cX4_begins 27 = .ok (.bipush 16, 2) := by decide +kernel
theorem dX4_begins_29 : decode cX4_begins 29 = .ok (.if_icmp .ne 7, 3) := by decide +kernel
theorem dX4_begins_32 : decode cX4_begins 32 = .ok (.iconst 2, 1) := by decide +kernel
theorem dX4_begins_33 : decode cX4_begins 33 = .ok (.goto 20, 3) := by decide +kernel
theorem dX4_begins_36 : decode cX4_begins 36 = .ok (.aload_n 0, 1) := by decide +kernel
theorem dX4_begins_37 : decode cX4_begins 37 = .ok (.getfield 39, 3) := by decide +kernel
theorem dX4_begins_40 : decode cX4_begins 40 = .ok (.bipush 9, 2) := by decide +kernel
theorem dX4_begins_42 : decode cX4_begins 42 = .ok (.if_icmp .ne 7, 3) := by decide +kernel
theorem dX4_begins_45 : decode cX4_begins 45 = .ok (.iconst 3, 1) := by decide +kernel
theorem dX4_begins_46 : decode cX4_begins 46 = .ok (.goto 7, 3) := by decide +kernel
theorem dX4_begins_49 : decode cX4_begins 49 = .ok (.aload_n 0, 1) := by decide +kernel
theorem dX4_begins_50 : decode cX4_begins 50 = .ok (.getfield 39, 3) := by decide +kernel
theorem dX4_begins_53 : decode cX4_begins 53 = .ok (.putfield 36, 3) := by decide +kernel
theorem dX4_begins_56 : decode cX4_begins 56 = .ok (.iconst 0, 1) := by decide +kernel
theorem dX4_begins_57 : decode cX4_begins 57 = .ok (.istore_n 2, 1) := by decide +kernel
theorem dX4_begins_58 : decode cX4_begins 58 = .ok (.iload_n 2, 1) := by decide +kernel
theorem dX4_begins_59 : decode cX4_begins 59 = .ok (.aload_n 0, 1) := by decide +kernel
theorem dX4_begins_60 : decode cX4_begins 60 = .ok (.getfield 39, 3) := by decide +kernel
theorem dX4_begins_63 : decode cX4_begins 63 = .ok (.if_icmp .ge 59, 3) := by decide +kernel
theorem dX4_begins_66 : decode cX4_begins 66 = .ok (.iconst 0, 1) := by decide +kernel
theorem dX4_begins_67 : decode cX4_begins 67 = .ok (.istore_n 3, 1) := by decide +kernel
theorem dX4_begins_68 : decode cX4_begins 68 = .ok (.iload_n 3, 1) := by decide +kernel
theorem dX4_begins_69 : decode cX4_begins 69 = .ok (.aload_n 0, 1) := by decide +kernel
theorem dX4_begins_70 : decode cX4_begins 70 = .ok (.getfield 39, 3) := by decide +kernel
theorem dX4_begins_73 : decode cX4_begins 73 = .ok (.if_icmp .ge 43, 3) := by decide +kernel
theorem dX4_begins_76 : decode cX4_begins 76 = .ok (.aload_n 0, 1) := by decide +kernel
theorem dX4_begins_77 : decode cX4_begins 77 = .ok (.getfield 7, 3) := by decide +kernel
theorem dX4_begins_80 : decode cX4_begins 80 = .ok (.bipush 16, 2) := by decide +kernel
theorem dX4_begins_82 : decode cX4_begins 82 = .ok (.iload_n 2, 1) := by decide +kernel
theorem dX4_begins_83 : decode cX4_begins 83 = .ok (.imul, 1) := by decide +kernel
theorem dX4_begins_84 : decode cX4_begins 84 = .ok (.iload_n 3, 1) := by decide +kernel
theorem dX4_begins_85 : decode cX4_begins 85 = .ok (.iadd, 1) := by decide +kernel
theorem dX4_begins_86 : decode cX4_begins 86 = .ok (.aload_n 0, 1) := by decide +kernel
theorem dX4_begins_87 : decode cX4_begins 87 = .ok (.iload_n 2, 1) := by decide +kernel
theorem dX4_begins_88 : decode cX4_begins 88 = .ok (.iload_n 3, 1) := by decide +kernel
theorem dX4_begins_89 : decode cX4_begins 89 = .ok (.invokevirtual 42, 3) := by decide +kernel
theorem dX4_begins_92 : decode cX4_begins 92 = .ok (.iastore, 1) := by decide +kernel
theorem dX4_begins_93 : decode cX4_begins 93 = .ok (.aload_n 0, 1) := by decide +kernel
theorem dX4_begins_94 : decode cX4_begins 94 = .ok (.getfield 13, 3) := by decide +kernel
theorem dX4_begins_97 : decode cX4_begins 97 = .ok (.bipush 16, 2) := by decide +kernel
theorem dX4_begins_99 : decode cX4_begins 99 = .ok (.iload_n 2, 1) := by decide +kernel
theorem dX4_begins_100 : decode cX4_begins 100 = .ok (.imul, 1) := by decide +kernel
theorem dX4_begins_101 : decode cX4_begins 101 = .ok (.iload_n 3, 1) := by decide +kernel
theorem dX4_begins_102 : decode cX4_begins 102 = .ok (.iadd, 1) := by decide +kernel
theorem dX4_begins_103 : decode cX4_begins 103 = .ok (.aload_n 0, 1) := by decide +kernel
theorem dX4_begins_104 : decode cX4_begins 104 = .ok (.iload_n 2, 1) := by decide +kernel
theorem dX4_begins_105 : decode cX4_begins 105 = .ok (.iload_n 3, 1) := by decide +kernel
theorem dX4_begins_106 : decode cX4_begins 106 = .ok (.invokevirtual 46, 3) := by decide +kernel
theorem dX4_begins_109 : decode cX4_begins 109 = .ok (.iastore, 1) := by decide +kernel
theorem dX4_begins_110 : decode cX4_begins 110 = .ok (.iinc 3 1, 3) := by decide +kernel
theorem dX4_begins_113 : decode cX4_begins 113 = .ok (.goto (-45), 3) := by decide +kernel
theorem dX4_begins_116 : decode cX4_begins 116 = .ok (.iinc 2 1, 3) := by decide +kernel
theorem dX4_begins_119 : decode cX4_begins 119 = .ok (.goto (-61), 3) := by decide +kernel
theorem dX4_begins_122 : decode cX4_begins 122 = .ok (.iconst 0, 1) := by decide +kernel
theorem dX4_begins_123 : decode cX4_begins 123 = .ok (.istore_n 2, 1) := by decide +kernel
theorem dX4_begins_124 : decode cX4_begins 124 = .ok (.iload_n 2, 1) := by decide +kernel
theorem dX4_begins_125 : decode cX4_begins 125 = .ok (.iconst 4, 1) := by decide +kernel
theorem dX4_begins_126 : decode cX4_begins 126 = .ok (.if_icmp .ge 35, 3) := by decide +kernel
theorem dX4_begins_129 : decode cX4_begins 129 = .ok (.iconst 0, 1) := by decide +kernel
theorem dX4_begins_130 : decode cX4_begins 130 = .ok (.istore_n 3, 1) := by decide +kernel
theorem dX4_begins_131 : decode cX4_begins 131 = .ok (.iload_n 3, 1) := by decide +kernel
theorem dX4_begins_132 : decode cX4_begins 132 = .ok (.bipush 16, 2) := by decide +kernel
theorem dX4_begins_134 : decode cX4_begins 134 = .ok (.if_icmp .ge 21, 3) := by decide +kernel
theorem dX4_begins_137 : decode cX4_begins 137 = .ok (.aload_n 0, 1) := by decide +kernel
theorem dX4_begins_138 : decode cX4_begins 138 = .ok (.getfield 16, 3) := by decide +kernel
theorem dX4_begins_141 : decode cX4_begins 141 = .ok (.bipush 16, 2) := by decide +kernel
theorem dX4_begins_143 : decode cX4_begins 143 = .ok (.iload_n 2, 1) := by decide +kernel
theorem dX4_begins_144 : decode cX4_begins 144 = .ok (.imul, 1) := by decide +kernel
theorem dX4_begins_145 : decode cX4_begins 145 = .ok (.iload_n 3, 1) := by decide +kernel
theorem dX4_begins_146 : decode cX4_begins 146 = .ok (.iadd, 1) := by decide +kernel
theorem dX4_begins_147 : decode cX4_begins 147 = .ok (.iload_n 3, 1) := by decide +kernel
theorem dX4_begins_148 : decode cX4_begins 148 = .ok (.iastore, 1) := by decide +kernel
theorem dX4_begins_149 : decode cX4_begins 149 = .ok (.iinc 3 1, 3) := by decide +kernel
theorem dX4_begins_152 : decode cX4_begins 152 = .ok (.goto (-21), 3) := by decide +kernel
theorem dX4_begins_155 : decode cX4_begins 155 = .ok (.iinc 2 1, 3) := by decide +kernel
theorem dX4_begins_158 : decode cX4_begins 158 = .ok (.goto (-34), 3) := by decide +kernel
theorem dX4_begins_161 : decode cX4_begins 161 = .ok (.return_, 1) := by decide +kernel
theorem dX4_add_0 : decode cX4_add 0 = .ok (.aload_n 0, 1) := by decide +kernel
theorem dX4_add_1 : decode cX4_add 1 = .ok (.getfield 7, 3) := by decide +kernel
theorem dX4_add_4 : decode cX4_add 4 = .ok (.bipush 16, 2) := by decide +kernel
theorem dX4_add_6 : decode cX4_add 6 = .ok (.iload_n 1, 1) := by decide +kernel
theorem dX4_add_7 : decode cX4_add 7 = .ok (.imul, 1) := by decide +kernel
theorem dX4_add_8 : decode cX4_add 8 = .ok (.iload_n 2, 1) := by decide +kernel
theorem dX4_add_9 : decode cX4_add 9 = .ok (.iadd, 1) := by decide +kernel
theorem dX4_add_10 : decode cX4_add 10 = .ok (.iaload, 1) := by decide +kernel
theorem dX4_add_11 : decode cX4_add 11 = .ok (.ireturn, 1) := by decide +kernel
theorem dX4_by_0 : decode cX4_by 0 = .ok (.aload_n 0, 1) := by decide +kernel
theorem dX4_by_1 : decode cX4_by 1 = .ok (.getfield 13, 3) := by decide +kernel
theorem dX4_by_4 : decode cX4_by 4 = .ok (.bipush 16, 2) := by decide +kernel
theorem dX4_by_6 : decode cX4_by 6 = .ok (.iload_n 1, 1) := by decide +kernel
theorem dX4_by_7 : decode cX4_by 7 = .ok (.imul, 1) := by decide +kernel
theorem dX4_by_8 : decode cX4_by 8 = .ok (.iload_n 2, 1) := by decide +kernel
theorem dX4_by_9 : decode cX4_by 9 = .ok (.iadd, 1) := by decide +kernel
theorem dX4_by_10 : decode cX4_by 10 = .ok (.iaload, 1) := by decide +kernel
theorem dX4_by_11 : decode cX4_by 11 = .ok (.ireturn, 1) := by decide +kernel
theorem dX4_minus_0 : decode cX4_minus 0 = .ok (.iconst 0, 1) := by decide +kernel
theorem dX4_minus_1 : decode cX4_minus 1 = .ok (.istore_n 2, 1) := by decide +kernel
theorem dX4_minus_2 : decode cX4_minus 2 = .ok (.aload_n 0, 1) := by decide +kernel
theorem dX4_minus_3 : decode cX4_minus 3 = .ok (.iload_n 1, 1) := by decide +kernel
theorem dX4_minus_4 : decode cX4_minus 4 = .ok (.iload_n 2, 1) := by decide +kernel
theorem dX4_minus_5 : decode cX4_minus 5 = .ok (.invokevirtual 49, 3) := by decide +kernel
theorem dX4_minus_8 : decode cX4_minus 8 = .ok (.ifCond .eq 9, 3) := by decide +kernel
theorem dX4_minus_11 : decode cX4_minus 11 = .ok (.iinc 2 1, 3) := by decide +kernel
theorem dX4_minus_14 : decode cX4_minus 14 = .ok (.goto (-12), 3) := by decide +kernel
theorem dX4_minus_17 : decode cX4_minus 17 = .ok (.iload_n 2, 1) := by decide +kernel
theorem dX4_minus_18 : decode cX4_minus 18 = .ok (.ireturn, 1) := by decide +kernel
theorem dX4_isNumber_0 : decode cX4_isNumber 0 = .ok (.iload_n 1, 1) := by decide +kernel
theorem dX4_isNumber_1 : decode cX4_isNumber 1 = .ok (.iconst 0, 1) := by decide +kernel
theorem dX4_isNumber_2 : decode cX4_isNumber 2 = .ok (.aload_n 0, 1) := by decide +kernel
theorem dX4_isNumber_3 : decode cX4_isNumber 3 = .ok (.getfield 39, 3) := by decide +kernel
theorem dX4_isNumber_6 : decode cX4_isNumber 6 = .ok (.iconst 1, 1) := by decide +kernel
theorem dX4_isNumber_7 : decode cX4_isNumber 7 = .ok (.isub, 1) := by decide +kernel
theorem dX4_isNumber_8 : decode cX4_isNumber 8 = .ok (.invokestatic 52, 3) := by decide +kernel
theorem dX4_isNumber_11 : decode cX4_isNumber 11 = .ok (.ireturn, 1) := by decide +kernel
theorem dX4_isMap_0 : decode cX4_isMap 0 = .ok (.iload_n 0, 1) := by decide +kernel
theorem dX4_isMap_1 : decode cX4_isMap 1 = .ok (.iconst 0, 1) := by decide +kernel
theorem dX4_isMap_2 : decode cX4_isMap 2 = .ok (.iconst 3, 1) := by decide +kernel
theorem dX4_isMap_3 : decode cX4_isMap 3 = .ok (.invokestatic 52, 3) := by decide +kernel
theorem dX4_isMap_6 : decode cX4_isMap 6 = .ok (.ireturn, 1) := by decide +kernel
theorem dX4_power_0 : decode cX4_power 0 = .ok (.iconst 1, 1) := by decide +kernel
theorem dX4_power_1 : decode cX4_power 1 = .ok (.istore_n 3, 1) := by decide +kernel
theorem dX4_power_2 : decode cX4_power 2 = .ok (.iconst 0, 1) := by decide +kernel
theorem dX4_power_3 : decode cX4_power 3 = .ok (.istore 4, 2) := by decide +kernel
theorem dX4_power_5 : decode cX4_power 5 = .ok (.iload 4, 2) := by decide +kernel
theorem dX4_power_7 : decode cX4_power 7 = .ok (.iload_n 2, 1) := by decide +kernel
theorem dX4_power_8 : decode cX4_power 8 = .ok (.if_icmp .ge 16, 3) := by decide +kernel
theorem dX4_power_11 : decode cX4_power 11 = .ok (.aload_n 0, 1) := by decide +kernel
theorem dX4_power_12 : decode cX4_power 12 = .ok (.iload_n 3, 1) := by decide +kernel
theorem dX4_power_13 : decode cX4_power 13 = .ok (.iload_n 1, 1) := by decide +kernel
theorem dX4_power_14 : decode cX4_power 14 = .ok (.invokevirtual 56, 3) := by decide +kernel
theorem dX4_power_17 : decode cX4_power 17 = .ok (.istore_n 3, 1) := by decide +kernel
theorem dX4_power_18 : decode cX4_power 18 = .ok (.iinc 4 1, 3) := by decide +kernel
theorem dX4_power_21 : decode cX4_power 21 = .ok (.goto (-16), 3) := by decide +kernel
theorem dX4_power_24 : decode cX4_power 24 = .ok (.iload_n 3, 1) := by decide +kernel
theorem dX4_power_25 : decode cX4_power 25 = .ok (.ireturn, 1) := by decide +kernel
theorem dX4_field_0 : decode cX4_field 0 = .ok (.aload_n 0, 1) := by decide +kernel
theorem dX4_field_1 : decode cX4_field 1 = .ok (.iconst 0, 1) := by decide +kernel
theorem dX4_field_2 : decode cX4_field 2 = .ok (.putfield 32, 3) := by decide +kernel
theorem dX4_field_5 : decode cX4_field 5 = .ok (.iload_n 1, 1) := by decide +kernel
theorem dX4_field_6 : decode cX4_field 6 = .ok (.iconst 2, 1) := by decide +kernel
theorem dX4_field_7 : decode cX4_field 7 = .ok (.iconst 5, 1) := by decide +kernel
theorem dX4_field_8 : decode cX4_field 8 = .ok (.invokestatic 52, 3) := by decide +kernel
theorem dX4_field_11 : decode cX4_field 11 = .ok (.ifCond .ne 34, 3) := by decide +kernel
theorem dX4_field_14 : decode cX4_field 14 = .ok (.iload_n 1, 1) := by decide +kernel
theorem dX4_field_15 : decode cX4_field 15 = .ok (.bipush 7, 2) := by decide +kernel
theorem dX4_field_17 : decode cX4_field 17 = .ok (.bipush 9, 2) := by decide +kernel
theorem dX4_field_19 : decode cX4_field 19 = .ok (.invokestatic 52, 3) := by decide +kernel
theorem dX4_field_22 : decode cX4_field 22 = .ok (.ifCond .ne 23, 3) := by decide +kernel
theorem dX4_field_25 : decode cX4_field 25 = .ok (.iload_n 1, 1) := by decide +kernel
theorem dX4_field_26 : decode cX4_field 26 = .ok (.bipush 11, 2) := by decide +kernel
theorem dX4_field_28 : decode cX4_field 28 = .ok (.if_icmp .eq 17, 3) := by decide +kernel
theorem dX4_field_31 : decode cX4_field 31 = .ok (.iload_n 1, 1) := by decide +kernel
theorem dX4_field_32 : decode cX4_field 32 = .ok (.bipush 13, 2) := by decide +kernel
theorem dX4_field_34 : decode cX4_field 34 = .ok (.if_icmp .eq 11, 3) := by decide +kernel
theorem dX4_field_37 : decode cX4_field 37 = .ok (.iload_n 1, 1) := by decide +kernel
theorem dX4_field_38 : decode cX4_field 38 = .ok (.bipush 16, 2) := by decide +kernel
theorem dX4_field_40 : decode cX4_field 40 = .ok (.if_icmp .eq 5, 3) := by decide +kernel
theorem dX4_field_43 : decode cX4_field 43 = .ok (.iconst (-1), 1) := by decide +kernel
theorem dX4_field_44 : decode cX4_field 44 = .ok (.ireturn, 1) := by decide +kernel
theorem dX4_field_45 : decode cX4_field 45 = .ok (.aload_n 0, 1) := by decide +kernel
theorem dX4_field_46 : decode cX4_field 46 = .ok (.getfield 39, 3) := by decide +kernel
theorem dX4_field_49 : decode cX4_field 49 = .ok (.istore_n 2, 1) := by decide +kernel
theorem dX4_field_50 : decode cX4_field 50 = .ok (.aload_n 0, 1) := by decide +kernel
theorem dX4_field_51 : decode cX4_field 51 = .ok (.iload_n 1, 1) := by decide +kernel
theorem dX4_field_52 : decode cX4_field 52 = .ok (.invokevirtual 28, 3) := by decide +kernel
theorem dX4_field_55 : decode cX4_field 55 = .ok (.iload_n 2, 1) := by decide +kernel
theorem dX4_field_56 : decode cX4_field 56 = .ok (.ireturn, 1) := by decide +kernel
theorem dX4_plus_0 : decode cX4_plus 0 = .ok (.aload_n 0, 1) := by decide +kernel
theorem dX4_plus_1 : decode cX4_plus 1 = .ok (.iconst 0, 1) := by decide +kernel
theorem dX4_plus_2 : decode cX4_plus 2 = .ok (.putfield 32, 3) := by decide +kernel
theorem dX4_plus_5 : decode cX4_plus 5 = .ok (.aload_n 0, 1) := by decide +kernel
theorem dX4_plus_6 : decode cX4_plus 6 = .ok (.iload_n 1, 1) := by decide +kernel
theorem dX4_plus_7 : decode cX4_plus 7 = .ok (.invokevirtual 59, 3) := by decide +kernel
theorem dX4_plus_10 : decode cX4_plus 10 = .ok (.ifCond .eq 20, 3) := by decide +kernel
theorem dX4_plus_13 : decode cX4_plus 13 = .ok (.aload_n 0, 1) := by decide +kernel
theorem dX4_plus_14 : decode cX4_plus 14 = .ok (.iload_n 2, 1) := by decide +kernel
theorem dX4_plus_15 : decode cX4_plus 15 = .ok (.invokevirtual 59, 3) := by decide +kernel
theorem dX4_plus_18 : decode cX4_plus 18 = .ok (.ifCond .eq 12, 3) := by decide +kernel
theorem dX4_plus_21 : decode cX4_plus 21 = .ok (.aload_n 0, 1) := by decide +kernel
theorem dX4_plus_22 : decode cX4_plus 22 = .ok (.iload_n 1, 1) := by decide +kernel
theorem dX4_plus_23 : decode cX4_plus 23 = .ok (.iload_n 2, 1) := by decide +kernel
theorem dX4_plus_24 : decode cX4_plus 24 = .ok (.invokevirtual 49, 3) := by decide +kernel
theorem dX4_plus_27 : decode cX4_plus 27 = .ok (.goto 4, 3) := by decide +kernel
theorem dX4_plus_30 : decode cX4_plus 30 = .ok (.iconst (-1), 1) := by decide +kernel
theorem dX4_plus_31 : decode cX4_plus 31 = .ok (.ireturn, 1) := by decide +kernel
theorem dX4_times_0 : decode cX4_times 0 = .ok (.aload_n 0, 1) := by decide +kernel
theorem dX4_times_1 : decode cX4_times 1 = .ok (.iconst 0, 1) := by decide +kernel
theorem dX4_times_2 : decode cX4_times 2 = .ok (.putfield 32, 3) := by decide +kernel
theorem dX4_times_5 : decode cX4_times 5 = .ok (.aload_n 0, 1) := by decide +kernel
theorem dX4_times_6 : decode cX4_times 6 = .ok (.iload_n 1, 1) := by decide +kernel
theorem dX4_times_7 : decode cX4_times 7 = .ok (.invokevirtual 59, 3) := by decide +kernel
theorem dX4_times_10 : decode cX4_times 10 = .ok (.ifCond .eq 20, 3) := by decide +kernel
theorem dX4_times_13 : decode cX4_times 13 = .ok (.aload_n 0, 1) := by decide +kernel
theorem dX4_times_14 : decode cX4_times 14 = .ok (.iload_n 2, 1) := by decide +kernel
theorem dX4_times_15 : decode cX4_times 15 = .ok (.invokevirtual 59, 3) := by decide +kernel
theorem dX4_times_18 : decode cX4_times 18 = .ok (.ifCond .eq 12, 3) := by decide +kernel
theorem dX4_times_21 : decode cX4_times 21 = .ok (.aload_n 0, 1) := by decide +kernel
theorem dX4_times_22 : decode cX4_times 22 = .ok (.iload_n 1, 1) := by decide +kernel
theorem dX4_times_23 : decode cX4_times 23 = .ok (.iload_n 2, 1) := by decide +kernel
theorem dX4_times_24 : decode cX4_times 24 = .ok (.invokevirtual 56, 3) := by decide +kernel
theorem dX4_times_27 : decode cX4_times 27 = .ok (.goto 4, 3) := by decide +kernel
theorem dX4_times_30 : decode cX4_times 30 = .ok (.iconst (-1), 1) := by decide +kernel
theorem dX4_times_31 : decode cX4_times 31 = .ok (.ireturn, 1) := by decide +kernel
theorem dX4_over_0 : decode cX4_over 0 = .ok (.aload_n 0, 1) := by decide +kernel
theorem dX4_over_1 : decode cX4_over 1 = .ok (.iconst 0, 1) := by decide +kernel
theorem dX4_over_2 : decode cX4_over 2 = .ok (.putfield 32, 3) := by decide +kernel
theorem dX4_over_5 : decode cX4_over 5 = .ok (.aload_n 0, 1) := by decide +kernel
theorem dX4_over_6 : decode cX4_over 6 = .ok (.iload_n 1, 1) := by decide +kernel
theorem dX4_over_7 : decode cX4_over 7 = .ok (.invokevirtual 59, 3) := by decide +kernel
theorem dX4_over_10 : decode cX4_over 10 = .ok (.ifCond .ne 5, 3) := by decide +kernel
theorem dX4_over_13 : decode cX4_over 13 = .ok (.iconst (-1), 1) := by decide +kernel
theorem dX4_over_14 : decode cX4_over 14 = .ok (.ireturn, 1) := by decide +kernel
theorem dX4_over_15 : decode cX4_over 15 = .ok (.iload_n 1, 1) := by decide +kernel
theorem dX4_over_16 : decode cX4_over 16 = .ok (.ifCond .ne 6, 3) := by decide +kernel
theorem dX4_over_19 : decode cX4_over 19 = .ok (.bipush (-2), 2) := by decide +kernel
theorem dX4_over_21 : decode cX4_over 21 = .ok (.ireturn, 1) := by decide +kernel
theorem dX4_over_22 : decode cX4_over 22 = .ok (.iconst 1, 1) := by decide +kernel
theorem dX4_over_23 : decode cX4_over 23 = .ok (.istore_n 2, 1) := by decide +kernel
theorem dX4_over_24 : decode cX4_over 24 = .ok (.aload_n 0, 1) := by decide +kernel
theorem dX4_over_25 : decode cX4_over 25 = .ok (.iload_n 1, 1) := by decide +kernel
theorem dX4_over_26 : decode cX4_over 26 = .ok (.iload_n 2, 1) := by decide +kernel
theorem dX4_over_27 : decode cX4_over 27 = .ok (.invokevirtual 56, 3) := by decide +kernel
theorem dX4_over_30 : decode cX4_over 30 = .ok (.iconst 1, 1) := by decide +kernel
theorem dX4_over_31 : decode cX4_over 31 = .ok (.if_icmp .eq 9, 3) := by decide +kernel
theorem dX4_over_34 : decode cX4_over 34 = .ok (.iinc 2 1, 3) := by decide +kernel
theorem dX4_over_37 : decode cX4_over 37 = .ok (.goto (-13), 3) := by decide +kernel
theorem dX4_over_40 : decode cX4_over 40 = .ok (.iload_n 2, 1) := by decide +kernel
theorem dX4_over_41 : decode cX4_over 41 = .ok (.ireturn, 1) := by decide +kernel
theorem dX4_set_0 : decode cX4_set 0 = .ok (.aload_n 0, 1) := by decide +kernel
theorem dX4_set_1 : decode cX4_set 1 = .ok (.iconst 0, 1) := by decide +kernel
theorem dX4_set_2 : decode cX4_set 2 = .ok (.putfield 32, 3) := by decide +kernel
theorem dX4_set_5 : decode cX4_set 5 = .ok (.iload_n 1, 1) := by decide +kernel
theorem dX4_set_6 : decode cX4_set 6 = .ok (.invokestatic 63, 3) := by decide +kernel
theorem dX4_set_9 : decode cX4_set 9 = .ok (.ifCond .eq 19, 3) := by decide +kernel
theorem dX4_set_12 : decode cX4_set 12 = .ok (.aload_n 0, 1) := by decide +kernel
theorem dX4_set_13 : decode cX4_set 13 = .ok (.iload_n 2, 1) := by decide +kernel
theorem dX4_set_14 : decode cX4_set 14 = .ok (.invokevirtual 59, 3) := by decide +kernel
theorem dX4_set_17 : decode cX4_set 17 = .ok (.ifCond .eq 11, 3) := by decide +kernel
theorem dX4_set_20 : decode cX4_set 20 = .ok (.aload_n 0, 1) := by decide +kernel
theorem dX4_set_21 : decode cX4_set 21 = .ok (.iload_n 3, 1) := by decide +kernel
theorem dX4_set_22 : decode cX4_set 22 = .ok (.invokevirtual 59, 3) := by decide +kernel
theorem dX4_set_25 : decode cX4_set 25 = .ok (.ifCond .ne 5, 3) := by decide +kernel
theorem dX4_set_28 : decode cX4_set 28 = .ok (.iconst (-1), 1) := by decide +kernel
theorem dX4_set_29 : decode cX4_set 29 = .ok (.ireturn, 1) := by decide +kernel
theorem dX4_set_30 : decode cX4_set 30 = .ok (.aload_n 0, 1) := by decide +kernel
theorem dX4_set_31 : decode cX4_set 31 = .ok (.getfield 16, 3) := by decide +kernel
theorem dX4_set_34 : decode cX4_set 34 = .ok (.bipush 16, 2) := by decide +kernel
theorem dX4_set_36 : decode cX4_set 36 = .ok (.iload_n 1, 1) := by decide +kernel
theorem dX4_set_37 : decode cX4_set 37 = .ok (.imul, 1) := by decide +kernel
theorem dX4_set_38 : decode cX4_set 38 = .ok (.iload_n 2, 1) := by decide +kernel
theorem dX4_set_39 : decode cX4_set 39 = .ok (.iadd, 1) := by decide +kernel
theorem dX4_set_40 : decode cX4_set 40 = .ok (.iaload, 1) := by decide +kernel
theorem dX4_set_41 : decode cX4_set 41 = .ok (.istore 4, 2) := by decide +kernel
theorem dX4_set_43 : decode cX4_set 43 = .ok (.aload_n 0, 1) := by decide +kernel
theorem dX4_set_44 : decode cX4_set 44 = .ok (.getfield 16, 3) := by decide +kernel
theorem dX4_set_47 : decode cX4_set 47 = .ok (.bipush 16, 2) := by decide +kernel
theorem dX4_set_49 : decode cX4_set 49 = .ok (.iload_n 1, 1) := by decide +kernel
theorem dX4_set_50 : decode cX4_set 50 = .ok (.imul, 1) := by decide +kernel
theorem dX4_set_51 : decode cX4_set 51 = .ok (.iload_n 2, 1) := by decide +kernel
theorem dX4_set_52 : decode cX4_set 52 = .ok (.iadd, 1) := by decide +kernel
theorem dX4_set_53 : decode cX4_set 53 = .ok (.iload_n 3, 1) := by decide +kernel
theorem dX4_set_54 : decode cX4_set 54 = .ok (.iastore, 1) := by decide +kernel
theorem dX4_set_55 : decode cX4_set 55 = .ok (.iload 4, 2) := by decide +kernel
theorem dX4_set_57 : decode cX4_set 57 = .ok (.ireturn, 1) := by decide +kernel
theorem dX4_at_0 : decode cX4_at 0 = .ok (.aload_n 0, 1) := by decide +kernel
theorem dX4_at_1 : decode cX4_at 1 = .ok (.iconst 0, 1) := by decide +kernel
theorem dX4_at_2 : decode cX4_at 2 = .ok (.putfield 32, 3) := by decide +kernel
theorem dX4_at_5 : decode cX4_at 5 = .ok (.iload_n 1, 1) := by decide +kernel
theorem dX4_at_6 : decode cX4_at 6 = .ok (.invokestatic 63, 3) := by decide +kernel
theorem dX4_at_9 : decode cX4_at 9 = .ok (.ifCond .eq 25, 3) := by decide +kernel
theorem dX4_at_12 : decode cX4_at 12 = .ok (.aload_n 0, 1) := by decide +kernel
theorem dX4_at_13 : decode cX4_at 13 = .ok (.iload_n 2, 1) := by decide +kernel
theorem dX4_at_14 : decode cX4_at 14 = .ok (.invokevirtual 59, 3) := by decide +kernel
theorem dX4_at_17 : decode cX4_at 17 = .ok (.ifCond .eq 17, 3) := by decide +kernel
theorem dX4_at_20 : decode cX4_at 20 = .ok (.aload_n 0, 1) := by decide +kernel
theorem dX4_at_21 : decode cX4_at 21 = .ok (.getfield 16, 3) := by decide +kernel
theorem dX4_at_24 : decode cX4_at 24 = .ok (.bipush 16, 2) := by decide +kernel
theorem dX4_at_26 : decode cX4_at 26 = .ok (.iload_n 1, 1) := by decide +kernel
theorem dX4_at_27 : decode cX4_at 27 = .ok (.imul, 1) := by decide +kernel
theorem dX4_at_28 : decode cX4_at 28 = .ok (.iload_n 2, 1) := by decide +kernel
theorem dX4_at_29 : decode cX4_at 29 = .ok (.iadd, 1) := by decide +kernel
theorem dX4_at_30 : decode cX4_at 30 = .ok (.iaload, 1) := by decide +kernel
theorem dX4_at_31 : decode cX4_at 31 = .ok (.goto 4, 3) := by decide +kernel
theorem dX4_at_34 : decode cX4_at 34 = .ok (.iconst (-1), 1) := by decide +kernel
theorem dX4_at_35 : decode cX4_at 35 = .ok (.ireturn, 1) := by decide +kernel
theorem dX4_coefficientOf_0 : decode cX4_coefficientOf 0 = .ok (.iload_n 2, 1) := by decide +kernel
theorem dX4_coefficientOf_1 : decode cX4_coefficientOf 1 = .ok (.ifCond .ne 13, 3) := by decide +kernel
theorem dX4_coefficientOf_4 : decode cX4_coefficientOf 4 = .ok (.aload_n 0, 1) := by decide +kernel
theorem dX4_coefficientOf_5 : decode cX4_coefficientOf 5 = .ok (.getfield 16, 3) := by decide +kernel
theorem dX4_coefficientOf_8 : decode cX4_coefficientOf 8 = .ok (.bipush 16, 2) := by decide +kernel
theorem dX4_coefficientOf_10 : decode cX4_coefficientOf 10 = .ok (.iload_n 1, 1) := by decide +kernel
theorem dX4_coefficientOf_11 : decode cX4_coefficientOf 11 = .ok (.imul, 1) := by decide +kernel
theorem dX4_coefficientOf_12 : decode cX4_coefficientOf 12 = .ok (.iaload, 1) := by decide +kernel
theorem dX4_coefficientOf_13 : decode cX4_coefficientOf 13 = .ok (.ireturn, 1) := by decide +kernel
theorem dX4_coefficientOf_14 : decode cX4_coefficientOf 14 = .ok (.iconst 0, 1) := by decide +kernel
theorem dX4_coefficientOf_15 : decode cX4_coefficientOf 15 = .ok (.istore_n 3, 1) := by decide +kernel
theorem dX4_coefficientOf_16 : decode cX4_coefficientOf 16 = .ok (.iconst 0, 1) := by decide +kernel
theorem dX4_coefficientOf_17 : decode cX4_coefficientOf 17 = .ok (.istore 4, 2) := by decide +kernel
theorem dX4_coefficientOf_19 : decode cX4_coefficientOf 19 = .ok (.iload 4, 2) := by decide +kernel
theorem dX4_coefficientOf_21 : decode cX4_coefficientOf 21 = .ok (.aload_n 0, 1) := by decide +kernel
theorem dX4_coefficientOf_22 : decode cX4_coefficientOf 22 = .ok (.getfield 39, 3) := by decide +kernel
theorem dX4_coefficientOf_25 : decode cX4_coefficientOf 25 = .ok (.if_icmp .ge 45, 3) := by decide +kernel
theorem dX4_coefficientOf_28 : decode cX4_coefficientOf 28 = .ok (.aload_n 0, 1) := by decide +kernel
theorem dX4_coefficientOf_29 : decode cX4_coefficientOf 29 = .ok (.iload_n 3, 1) := by decide +kernel
theorem dX4_coefficientOf_30 : decode cX4_coefficientOf 30 = .ok (.aload_n 0, 1) := by decide +kernel
theorem dX4_coefficientOf_31 : decode cX4_coefficientOf 31 = .ok (.aload_n 0, 1) := by decide +kernel
theorem dX4_coefficientOf_32 : decode cX4_coefficientOf 32 = .ok (.getfield 16, 3) := by decide +kernel
theorem dX4_coefficientOf_35 : decode cX4_coefficientOf 35 = .ok (.bipush 16, 2) := by decide +kernel
theorem dX4_coefficientOf_37 : decode cX4_coefficientOf 37 = .ok (.iload_n 1, 1) := by decide +kernel
theorem dX4_coefficientOf_38 : decode cX4_coefficientOf 38 = .ok (.imul, 1) := by decide +kernel
theorem dX4_coefficientOf_39 : decode cX4_coefficientOf 39 = .ok (.iload 4, 2) := by decide +kernel
theorem dX4_coefficientOf_41 : decode cX4_coefficientOf 41 = .ok (.iadd, 1) := by decide +kernel
theorem dX4_coefficientOf_42 : decode cX4_coefficientOf 42 = .ok (.iaload, 1) := by decide +kernel
theorem dX4_coefficientOf_43 : decode cX4_coefficientOf 43 = .ok (.aload_n 0, 1) := by decide +kernel
theorem dX4_coefficientOf_44 : decode cX4_coefficientOf 44 = .ok (.iload 4, 2) := by decide +kernel
theorem dX4_coefficientOf_46 : decode cX4_coefficientOf 46 = .ok (.aload_n 0, 1) := by decide +kernel
theorem dX4_coefficientOf_47 : decode cX4_coefficientOf 47 = .ok (.getfield 39, 3) := by decide +kernel
theorem dX4_coefficientOf_50 : decode cX4_coefficientOf 50 = .ok (.iconst 1, 1) := by decide +kernel
theorem dX4_coefficientOf_51 : decode cX4_coefficientOf 51 = .ok (.isub, 1) := by decide +kernel
theorem dX4_coefficientOf_52 : decode cX4_coefficientOf 52 = .ok (.iload_n 2, 1) := by decide +kernel
theorem dX4_coefficientOf_53 : decode cX4_coefficientOf 53 = .ok (.isub, 1) := by decide +kernel
theorem dX4_coefficientOf_54 : decode cX4_coefficientOf 54 = .ok (.invokevirtual 66, 3) := by decide +kernel
theorem dX4_coefficientOf_57 : decode cX4_coefficientOf 57 = .ok (.invokevirtual 56, 3) := by decide +kernel
theorem dX4_coefficientOf_60 : decode cX4_coefficientOf 60 = .ok (.invokevirtual 49, 3) := by decide +kernel
theorem dX4_coefficientOf_63 : decode cX4_coefficientOf 63 = .ok (.istore_n 3, 1) := by decide +kernel
theorem dX4_coefficientOf_64 : decode cX4_coefficientOf 64 = .ok (.iinc 4 1, 3) := by decide +kernel
theorem dX4_coefficientOf_67 : decode cX4_coefficientOf 67 = .ok (.goto (-48), 3) := by decide +kernel
theorem dX4_coefficientOf_70 : decode cX4_coefficientOf 70 = .ok (.aload_n 0, 1) := by decide +kernel
theorem dX4_coefficientOf_71 : decode cX4_coefficientOf 71 = .ok (.iload_n 3, 1) := by decide +kernel
theorem dX4_coefficientOf_72 : decode cX4_coefficientOf 72 = .ok (.invokevirtual 69, 3) := by decide +kernel
theorem dX4_coefficientOf_75 : decode cX4_coefficientOf 75 = .ok (.ireturn, 1) := by decide +kernel
theorem dX4_coefficient_0 : decode cX4_coefficient 0 = .ok (.aload_n 0, 1) := by decide +kernel
theorem dX4_coefficient_1 : decode cX4_coefficient 1 = .ok (.iconst 0, 1) := by decide +kernel
theorem dX4_coefficient_2 : decode cX4_coefficient 2 = .ok (.putfield 32, 3) := by decide +kernel
theorem dX4_coefficient_5 : decode cX4_coefficient 5 = .ok (.iload_n 1, 1) := by decide +kernel
theorem dX4_coefficient_6 : decode cX4_coefficient 6 = .ok (.invokestatic 63, 3) := by decide +kernel
theorem dX4_coefficient_9 : decode cX4_coefficient 9 = .ok (.ifCond .eq 20, 3) := by decide +kernel
theorem dX4_coefficient_12 : decode cX4_coefficient 12 = .ok (.aload_n 0, 1) := by decide +kernel
theorem dX4_coefficient_13 : decode cX4_coefficient 13 = .ok (.iload_n 2, 1) := by decide +kernel
theorem dX4_coefficient_14 : decode cX4_coefficient 14 = .ok (.invokevirtual 59, 3) := by decide +kernel
theorem dX4_coefficient_17 : decode cX4_coefficient 17 = .ok (.ifCond .eq 12, 3) := by decide +kernel
theorem dX4_coefficient_20 : decode cX4_coefficient 20 = .ok (.aload_n 0, 1) := by decide +kernel
theorem dX4_coefficient_21 : decode cX4_coefficient 21 = .ok (.iload_n 1, 1) := by decide +kernel
theorem dX4_coefficient_22 : decode cX4_coefficient 22 = .ok (.iload_n 2, 1) := by decide +kernel
theorem dX4_coefficient_23 : decode cX4_coefficient 23 = .ok (.invokevirtual 73, 3) := by decide +kernel
theorem dX4_coefficient_26 : decode cX4_coefficient 26 = .ok (.goto 4, 3) := by decide +kernel
theorem dX4_coefficient_29 : decode cX4_coefficient 29 = .ok (.iconst (-1), 1) := by decide +kernel
theorem dX4_coefficient_30 : decode cX4_coefficient 30 = .ok (.ireturn, 1) := by decide +kernel
theorem dX4_change_0 : decode cX4_change 0 = .ok (.aload_n 0, 1) := by decide +kernel
theorem dX4_change_1 : decode cX4_change 1 = .ok (.iconst 0, 1) := by decide +kernel
theorem dX4_change_2 : decode cX4_change 2 = .ok (.putfield 32, 3) := by decide +kernel
theorem dX4_change_5 : decode cX4_change 5 = .ok (.iload_n 1, 1) := by decide +kernel
theorem dX4_change_6 : decode cX4_change 6 = .ok (.invokestatic 63, 3) := by decide +kernel
theorem dX4_change_9 : decode cX4_change 9 = .ok (.ifCond .eq 19, 3) := by decide +kernel
theorem dX4_change_12 : decode cX4_change 12 = .ok (.aload_n 0, 1) := by decide +kernel
theorem dX4_change_13 : decode cX4_change 13 = .ok (.iload_n 2, 1) := by decide +kernel
theorem dX4_change_14 : decode cX4_change 14 = .ok (.invokevirtual 59, 3) := by decide +kernel
theorem dX4_change_17 : decode cX4_change 17 = .ok (.ifCond .eq 11, 3) := by decide +kernel
theorem dX4_change_20 : decode cX4_change 20 = .ok (.aload_n 0, 1) := by decide +kernel
theorem dX4_change_21 : decode cX4_change 21 = .ok (.iload_n 3, 1) := by decide +kernel
theorem dX4_change_22 : decode cX4_change 22 = .ok (.invokevirtual 59, 3) := by decide +kernel
theorem dX4_change_25 : decode cX4_change 25 = .ok (.ifCond .ne 5, 3) := by decide +kernel
theorem dX4_change_28 : decode cX4_change 28 = .ok (.iconst (-1), 1) := by decide +kernel
theorem dX4_change_29 : decode cX4_change 29 = .ok (.ireturn, 1) := by decide +kernel
theorem dX4_change_30 : decode cX4_change 30 = .ok (.aload_n 0, 1) := by decide +kernel
theorem dX4_change_31 : decode cX4_change 31 = .ok (.iload_n 1, 1) := by decide +kernel
theorem dX4_change_32 : decode cX4_change 32 = .ok (.iload_n 2, 1) := by decide +kernel
theorem dX4_change_33 : decode cX4_change 33 = .ok (.invokevirtual 73, 3) := by decide +kernel
theorem dX4_change_36 : decode cX4_change 36 = .ok (.istore 4, 2) := by decide +kernel
theorem dX4_change_38 : decode cX4_change 38 = .ok (.aload_n 0, 1) := by decide +kernel
theorem dX4_change_39 : decode cX4_change 39 = .ok (.iload_n 3, 1) := by decide +kernel
theorem dX4_change_40 : decode cX4_change 40 = .ok (.aload_n 0, 1) := by decide +kernel
theorem dX4_change_41 : decode cX4_change 41 = .ok (.iload 4, 2) := by decide +kernel
theorem dX4_change_43 : decode cX4_change 43 = .ok (.invokevirtual 69, 3) := by decide +kernel
theorem dX4_change_46 : decode cX4_change 46 = .ok (.invokevirtual 49, 3) := by decide +kernel
theorem dX4_change_49 : decode cX4_change 49 = .ok (.istore 5, 2) := by decide +kernel
theorem dX4_change_51 : decode cX4_change 51 = .ok (.iconst 0, 1) := by decide +kernel
theorem dX4_change_52 : decode cX4_change 52 = .ok (.istore 6, 2) := by decide +kernel
theorem dX4_change_54 : decode cX4_change 54 = .ok (.iload 6, 2) := by decide +kernel
theorem dX4_change_56 : decode cX4_change 56 = .ok (.aload_n 0, 1) := by decide +kernel
theorem dX4_change_57 : decode cX4_change 57 = .ok (.getfield 39, 3) := by decide +kernel
theorem dX4_change_60 : decode cX4_change 60 = .ok (.if_icmp .ge 50, 3) := by decide +kernel
theorem dX4_change_63 : decode cX4_change 63 = .ok (.aload_n 0, 1) := by decide +kernel
theorem dX4_change_64 : decode cX4_change 64 = .ok (.getfield 16, 3) := by decide +kernel
theorem dX4_change_67 : decode cX4_change 67 = .ok (.bipush 16, 2) := by decide +kernel
theorem dX4_change_69 : decode cX4_change 69 = .ok (.iload_n 1, 1) := by decide +kernel
theorem dX4_change_70 : decode cX4_change 70 = .ok (.imul, 1) := by decide +kernel
theorem dX4_change_71 : decode cX4_change 71 = .ok (.iload 6, 2) := by decide +kernel
theorem dX4_change_73 : decode cX4_change 73 = .ok (.iadd, 1) := by decide +kernel
theorem dX4_change_74 : decode cX4_change 74 = .ok (.aload_n 0, 1) := by decide +kernel
theorem dX4_change_75 : decode cX4_change 75 = .ok (.aload_n 0, 1) := by decide +kernel
theorem dX4_change_76 : decode cX4_change 76 = .ok (.getfield 16, 3) := by decide +kernel
theorem dX4_change_79 : decode cX4_change 79 = .ok (.bipush 16, 2) := by decide +kernel
theorem dX4_change_81 : decode cX4_change 81 = .ok (.iload_n 1, 1) := by decide +kernel
theorem dX4_change_82 : decode cX4_change 82 = .ok (.imul, 1) := by decide +kernel
theorem dX4_change_83 : decode cX4_change 83 = .ok (.iload 6, 2) := by decide +kernel
theorem dX4_change_85 : decode cX4_change 85 = .ok (.iadd, 1) := by decide +kernel
theorem dX4_change_86 : decode cX4_change 86 = .ok (.iaload, 1) := by decide +kernel
theorem dX4_change_87 : decode cX4_change 87 = .ok (.aload_n 0, 1) := by decide +kernel
theorem dX4_change_88 : decode cX4_change 88 = .ok (.iload 5, 2) := by decide +kernel
theorem dX4_change_90 : decode cX4_change 90 = .ok (.aload_n 0, 1) := by decide +kernel
theorem dX4_change_91 : decode cX4_change 91 = .ok (.iload 6, 2) := by decide +kernel
theorem dX4_change_93 : decode cX4_change 93 = .ok (.iload_n 2, 1) := by decide +kernel
theorem dX4_change_94 : decode cX4_change 94 = .ok (.invokevirtual 66, 3) := by decide +kernel
theorem dX4_change_97 : decode cX4_change 97 = .ok (.invokevirtual 56, 3) := by decide +kernel
theorem dX4_change_100 : decode cX4_change 100 = .ok (.invokevirtual 49, 3) := by decide +kernel
theorem dX4_change_103 : decode cX4_change 103 = .ok (.iastore, 1) := by decide +kernel
theorem dX4_change_104 : decode cX4_change 104 = .ok (.iinc 6 1, 3) := by decide +kernel
theorem dX4_change_107 : decode cX4_change 107 = .ok (.goto (-53), 3) := by decide +kernel
theorem dX4_change_110 : decode cX4_change 110 = .ok (.iload 4, 2) := by decide +kernel
theorem dX4_change_112 : decode cX4_change 112 = .ok (.ireturn, 1) := by decide +kernel
theorem dX4_degree_0 : decode cX4_degree 0 = .ok (.aload_n 0, 1) := by decide +kernel
theorem dX4_degree_1 : decode cX4_degree 1 = .ok (.iconst 0, 1) := by decide +kernel
theorem dX4_degree_2 : decode cX4_degree 2 = .ok (.putfield 32, 3) := by decide +kernel
theorem dX4_degree_5 : decode cX4_degree 5 = .ok (.iload_n 1, 1) := by decide +kernel
theorem dX4_degree_6 : decode cX4_degree 6 = .ok (.invokestatic 63, 3) := by decide +kernel
theorem dX4_degree_9 : decode cX4_degree 9 = .ok (.ifCond .ne 5, 3) := by decide +kernel
theorem dX4_degree_12 : decode cX4_degree 12 = .ok (.iconst (-1), 1) := by decide +kernel
theorem dX4_degree_13 : decode cX4_degree 13 = .ok (.ireturn, 1) := by decide +kernel
theorem dX4_degree_14 : decode cX4_degree 14 = .ok (.aload_n 0, 1) := by decide +kernel
theorem dX4_degree_15 : decode cX4_degree 15 = .ok (.getfield 39, 3) := by decide +kernel
theorem dX4_degree_18 : decode cX4_degree 18 = .ok (.iconst 1, 1) := by decide +kernel
theorem dX4_degree_19 : decode cX4_degree 19 = .ok (.isub, 1) := by decide +kernel
theorem dX4_degree_20 : decode cX4_degree 20 = .ok (.istore_n 2, 1) := by decide +kernel
theorem dX4_degree_21 : decode cX4_degree 21 = .ok (.iload_n 2, 1) := by decide +kernel
theorem dX4_degree_22 : decode cX4_degree 22 = .ok (.ifCond .lt 18, 3) := by decide +kernel
theorem dX4_degree_25 : decode cX4_degree 25 = .ok (.aload_n 0, 1) := by decide +kernel
theorem dX4_degree_26 : decode cX4_degree 26 = .ok (.iload_n 1, 1) := by decide +kernel
theorem dX4_degree_27 : decode cX4_degree 27 = .ok (.iload_n 2, 1) := by decide +kernel
theorem dX4_degree_28 : decode cX4_degree 28 = .ok (.invokevirtual 73, 3) := by decide +kernel
theorem dX4_degree_31 : decode cX4_degree 31 = .ok (.ifCond .ne 9, 3) := by decide +kernel
theorem dX4_degree_34 : decode cX4_degree 34 = .ok (.iinc 2 (-1), 3) := by decide +kernel
theorem dX4_degree_37 : decode cX4_degree 37 = .ok (.goto (-16), 3) := by decide +kernel
theorem dX4_degree_40 : decode cX4_degree 40 = .ok (.iload_n 2, 1) := by decide +kernel
theorem dX4_degree_41 : decode cX4_degree 41 = .ok (.ifCond .ge 8, 3) := by decide +kernel
theorem dX4_degree_44 : decode cX4_degree 44 = .ok (.bipush (-9), 2) := by decide +kernel
theorem dX4_degree_46 : decode cX4_degree 46 = .ok (.goto 4, 3) := by decide +kernel
theorem dX4_degree_49 : decode cX4_degree 49 = .ok (.iload_n 2, 1) := by decide +kernel
theorem dX4_degree_50 : decode cX4_degree 50 = .ok (.ireturn, 1) := by decide +kernel
theorem dX4_isRecipe_0 : decode cX4_isRecipe 0 = .ok (.iload_n 1, 1) := by decide +kernel
theorem dX4_isRecipe_1 : decode cX4_isRecipe 1 = .ok (.iconst 0, 1) := by decide +kernel
theorem dX4_isRecipe_2 : decode cX4_isRecipe 2 = .ok (.iconst 2, 1) := by decide +kernel
theorem dX4_isRecipe_3 : decode cX4_isRecipe 3 = .ok (.invokestatic 52, 3) := by decide +kernel
theorem dX4_isRecipe_6 : decode cX4_isRecipe 6 = .ok (.ifCond .eq 48, 3) := by decide +kernel
theorem dX4_isRecipe_9 : decode cX4_isRecipe 9 = .ok (.iload_n 2, 1) := by decide +kernel
theorem dX4_isRecipe_10 : decode cX4_isRecipe 10 = .ok (.iconst 1, 1) := by decide +kernel
theorem dX4_isRecipe_11 : decode cX4_isRecipe 11 = .ok (.sipush 255, 3) := by decide +kernel
theorem dX4_isRecipe_14 : decode cX4_isRecipe 14 = .ok (.invokestatic 52, 3) := by decide +kernel
theorem dX4_isRecipe_17 : decode cX4_isRecipe 17 = .ok (.ifCond .eq 37, 3) := by decide +kernel
theorem dX4_isRecipe_20 : decode cX4_isRecipe 20 = .ok (.iload_n 1, 1) := by decide +kernel
theorem dX4_isRecipe_21 : decode cX4_isRecipe 21 = .ok (.ifCond .eq 29, 3) := by decide +kernel
theorem dX4_isRecipe_24 : decode cX4_isRecipe 24 = .ok (.aload_n 0, 1) := by decide +kernel
theorem dX4_isRecipe_25 : decode cX4_isRecipe 25 = .ok (.iload_n 3, 1) := by decide +kernel
theorem dX4_isRecipe_26 : decode cX4_isRecipe 26 = .ok (.invokevirtual 59, 3) := by decide +kernel
theorem dX4_isRecipe_29 : decode cX4_isRecipe 29 = .ok (.ifCond .eq 25, 3) := by decide +kernel
theorem dX4_isRecipe_32 : decode cX4_isRecipe 32 = .ok (.aload_n 0, 1) := by decide +kernel
theorem dX4_isRecipe_33 : decode cX4_isRecipe 33 = .ok (.iload 4, 2) := by decide +kernel
theorem dX4_isRecipe_35 : decode cX4_isRecipe 35 = .ok (.invokevirtual 59, 3) := by decide +kernel
theorem dX4_isRecipe_38 : decode cX4_isRecipe 38 = .ok (.ifCond .eq 16, 3) := by decide +kernel
theorem dX4_isRecipe_41 : decode cX4_isRecipe 41 = .ok (.aload_n 0, 1) := by decide +kernel
theorem dX4_isRecipe_42 : decode cX4_isRecipe 42 = .ok (.iload 5, 2) := by decide +kernel
theorem dX4_isRecipe_44 : decode cX4_isRecipe 44 = .ok (.invokevirtual 59, 3) := by decide +kernel
theorem dX4_isRecipe_47 : decode cX4_isRecipe 47 = .ok (.ifCond .eq 7, 3) := by decide +kernel
theorem dX4_isRecipe_50 : decode cX4_isRecipe 50 = .ok (.iconst 1, 1) := by decide +kernel
theorem dX4_isRecipe_51 : decode cX4_isRecipe 51 = .ok (.goto 4, 3) := by decide +kernel
theorem dX4_isRecipe_54 : decode cX4_isRecipe 54 = .ok (.iconst 0, 1) := by decide +kernel
theorem dX4_isRecipe_55 : decode cX4_isRecipe 55 = .ok (.ireturn, 1) := by decide +kernel
theorem dX4_dressed_0 : decode cX4_dressed 0 = .ok (.aload_n 0, 1) := by decide +kernel
theorem dX4_dressed_1 : decode cX4_dressed 1 = .ok (.aload_n 0, 1) := by decide +kernel
theorem dX4_dressed_2 : decode cX4_dressed 2 = .ok (.iload_n 2, 1) := by decide +kernel
theorem dX4_dressed_3 : decode cX4_dressed 3 = .ok (.aload_n 0, 1) := by decide +kernel
theorem dX4_dressed_4 : decode cX4_dressed 4 = .ok (.aload_n 0, 1) := by decide +kernel
theorem dX4_dressed_5 : decode cX4_dressed 5 = .ok (.iload 5, 2) := by decide +kernel
theorem dX4_dressed_7 : decode cX4_dressed 7 = .ok (.iload_n 3, 1) := by decide +kernel
theorem dX4_dressed_8 : decode cX4_dressed 8 = .ok (.invokevirtual 49, 3) := by decide +kernel
theorem dX4_dressed_11 : decode cX4_dressed 11 = .ok (.iload_n 1, 1) := by decide +kernel
theorem dX4_dressed_12 : decode cX4_dressed 12 = .ok (.invokevirtual 66, 3) := by decide +kernel
theorem dX4_dressed_15 : decode cX4_dressed 15 = .ok (.invokevirtual 56, 3) := by decide +kernel
theorem dX4_dressed_18 : decode cX4_dressed 18 = .ok (.iload 4, 2) := by decide +kernel
theorem dX4_dressed_20 : decode cX4_dressed 20 = .ok (.invokevirtual 49, 3) := by decide +kernel
theorem dX4_dressed_23 : decode cX4_dressed 23 = .ok (.ireturn, 1) := by decide +kernel
theorem dX4_tasteOf_0 : decode cX4_tasteOf 0 = .ok (.iload_n 1, 1) := by decide +kernel
theorem dX4_tasteOf_1 : decode cX4_tasteOf 1 = .ok (.ifCond .ne 11, 3) := by decide +kernel
theorem dX4_tasteOf_4 : decode cX4_tasteOf 4 = .ok (.aload_n 0, 1) := by decide +kernel
theorem dX4_tasteOf_5 : decode cX4_tasteOf 5 = .ok (.iload 6, 2) := by decide +kernel
theorem dX4_tasteOf_7 : decode cX4_tasteOf 7 = .ok (.iload_n 2, 1) := by decide +kernel
theorem dX4_tasteOf_8 : decode cX4_tasteOf 8 = .ok (.invokevirtual 66, 3) := by decide +kernel
theorem dX4_tasteOf_11 : decode cX4_tasteOf 11 = .ok (.ireturn, 1) := by decide +kernel
theorem dX4_tasteOf_12 : decode cX4_tasteOf 12 = .ok (.aload_n 0, 1) := by decide +kernel
theorem dX4_tasteOf_13 : decode cX4_tasteOf 13 = .ok (.iload_n 2, 1) := by decide +kernel
theorem dX4_tasteOf_14 : decode cX4_tasteOf 14 = .ok (.iload_n 3, 1) := by decide +kernel
theorem dX4_tasteOf_15 : decode cX4_tasteOf 15 = .ok (.iload 4, 2) := by decide +kernel
theorem dX4_tasteOf_17 : decode cX4_tasteOf 17 = .ok (.iload 5, 2) := by decide +kernel
theorem dX4_tasteOf_19 : decode cX4_tasteOf 19 = .ok (.iload 6, 2) := by decide +kernel
theorem dX4_tasteOf_21 : decode cX4_tasteOf 21 = .ok (.invokevirtual 76, 3) := by decide +kernel
theorem dX4_tasteOf_24 : decode cX4_tasteOf 24 = .ok (.istore 7, 2) := by decide +kernel
theorem dX4_tasteOf_26 : decode cX4_tasteOf 26 = .ok (.iload_n 1, 1) := by decide +kernel
theorem dX4_tasteOf_27 : decode cX4_tasteOf 27 = .ok (.iconst 1, 1) := by decide +kernel
theorem dX4_tasteOf_28 : decode cX4_tasteOf 28 = .ok (.if_icmp .ne 8, 3) := by decide +kernel
theorem dX4_tasteOf_31 : decode cX4_tasteOf 31 = .ok (.iload 7, 2) := by decide +kernel
theorem dX4_tasteOf_33 : decode cX4_tasteOf 33 = .ok (.goto 15, 3) := by decide +kernel
theorem dX4_tasteOf_36 : decode cX4_tasteOf 36 = .ok (.aload_n 0, 1) := by decide +kernel
theorem dX4_tasteOf_37 : decode cX4_tasteOf 37 = .ok (.iload_n 2, 1) := by decide +kernel
theorem dX4_tasteOf_38 : decode cX4_tasteOf 38 = .ok (.iload_n 3, 1) := by decide +kernel
theorem dX4_tasteOf_39 : decode cX4_tasteOf 39 = .ok (.iload 4, 2) := by decide +kernel
theorem dX4_tasteOf_41 : decode cX4_tasteOf 41 = .ok (.iload 5, 2) := by decide +kernel
theorem dX4_tasteOf_43 : decode cX4_tasteOf 43 = .ok (.iload 7, 2) := by decide +kernel
theorem dX4_tasteOf_45 : decode cX4_tasteOf 45 = .ok (.invokevirtual 76, 3) := by decide +kernel
theorem dX4_tasteOf_48 : decode cX4_tasteOf 48 = .ok (.ireturn, 1) := by decide +kernel
theorem dX4_make_0 : decode cX4_make 0 = .ok (.aload_n 0, 1) := by decide +kernel
theorem dX4_make_1 : decode cX4_make 1 = .ok (.iconst 0, 1) := by decide +kernel
theorem dX4_make_2 : decode cX4_make 2 = .ok (.putfield 32, 3) := by decide +kernel
theorem dX4_make_5 : decode cX4_make 5 = .ok (.iload_n 1, 1) := by decide +kernel
theorem dX4_make_6 : decode cX4_make 6 = .ok (.invokestatic 63, 3) := by decide +kernel
theorem dX4_make_9 : decode cX4_make 9 = .ok (.ifCond .eq 18, 3) := by decide +kernel
theorem dX4_make_12 : decode cX4_make 12 = .ok (.aload_n 0, 1) := by decide +kernel
theorem dX4_make_13 : decode cX4_make 13 = .ok (.iload_n 2, 1) := by decide +kernel
theorem dX4_make_14 : decode cX4_make 14 = .ok (.iload_n 3, 1) := by decide +kernel
theorem dX4_make_15 : decode cX4_make 15 = .ok (.iload 4, 2) := by decide +kernel
theorem dX4_make_17 : decode cX4_make 17 = .ok (.iload 5, 2) := by decide +kernel
theorem dX4_make_19 : decode cX4_make 19 = .ok (.iload 6, 2) := by decide +kernel
theorem dX4_make_21 : decode cX4_make 21 = .ok (.invokevirtual 80, 3) := by decide +kernel
theorem dX4_make_24 : decode cX4_make 24 = .ok (.ifCond .ne 5, 3) := by decide +kernel
theorem dX4_make_27 : decode cX4_make 27 = .ok (.iconst (-1), 1) := by decide +kernel
theorem dX4_make_28 : decode cX4_make 28 = .ok (.ireturn, 1) := by decide +kernel
theorem dX4_make_29 : decode cX4_make 29 = .ok (.iconst 0, 1) := by decide +kernel
theorem dX4_make_30 : decode cX4_make 30 = .ok (.istore 7, 2) := by decide +kernel
theorem dX4_make_32 : decode cX4_make 32 = .ok (.iload 7, 2) := by decide +kernel
theorem dX4_make_34 : decode cX4_make 34 = .ok (.aload_n 0, 1) := by decide +kernel
theorem dX4_make_35 : decode cX4_make 35 = .ok (.getfield 39, 3) := by decide +kernel
theorem dX4_make_38 : decode cX4_make 38 = .ok (.if_icmp .ge 35, 3) := by decide +kernel
theorem dX4_make_41 : decode cX4_make 41 = .ok (.aload_n 0, 1) := by decide +kernel
theorem dX4_make_42 : decode cX4_make 42 = .ok (.getfield 16, 3) := by decide +kernel
theorem dX4_make_45 : decode cX4_make 45 = .ok (.bipush 16, 2) := by decide +kernel
theorem dX4_make_47 : decode cX4_make 47 = .ok (.iload_n 1, 1) := by decide +kernel
theorem dX4_make_48 : decode cX4_make 48 = .ok (.imul, 1) := by decide +kernel
theorem dX4_make_49 : decode cX4_make 49 = .ok (.iload 7, 2) := by decide +kernel
theorem dX4_make_51 : decode cX4_make 51 = .ok (.iadd, 1) := by decide +kernel
theorem dX4_make_52 : decode cX4_make 52 = .ok (.aload_n 0, 1) := by decide +kernel
theorem dX4_make_53 : decode cX4_make 53 = .ok (.iload_n 2, 1) := by decide +kernel
theorem dX4_make_54 : decode cX4_make 54 = .ok (.iload_n 3, 1) := by decide +kernel
theorem dX4_make_55 : decode cX4_make 55 = .ok (.iload 4, 2) := by decide +kernel
theorem dX4_make_57 : decode cX4_make 57 = .ok (.iload 5, 2) := by decide +kernel
theorem dX4_make_59 : decode cX4_make 59 = .ok (.iload 6, 2) := by decide +kernel
theorem dX4_make_61 : decode cX4_make 61 = .ok (.iload 7, 2) := by decide +kernel
theorem dX4_make_63 : decode cX4_make 63 = .ok (.invokevirtual 84, 3) := by decide +kernel
theorem dX4_make_66 : decode cX4_make 66 = .ok (.iastore, 1) := by decide +kernel
theorem dX4_make_67 : decode cX4_make 67 = .ok (.iinc 7 1, 3) := by decide +kernel
theorem dX4_make_70 : decode cX4_make 70 = .ok (.goto (-38), 3) := by decide +kernel
theorem dX4_make_73 : decode cX4_make 73 = .ok (.iconst 1, 1) := by decide +kernel
theorem dX4_make_74 : decode cX4_make 74 = .ok (.ireturn, 1) := by decide +kernel
theorem dX4_taste_0 : decode cX4_taste 0 = .ok (.aload_n 0, 1) := by decide +kernel
theorem dX4_taste_1 : decode cX4_taste 1 = .ok (.iconst 0, 1) := by decide +kernel
theorem dX4_taste_2 : decode cX4_taste 2 = .ok (.putfield 32, 3) := by decide +kernel
theorem dX4_taste_5 : decode cX4_taste 5 = .ok (.aload_n 0, 1) := by decide +kernel
theorem dX4_taste_6 : decode cX4_taste 6 = .ok (.iload_n 1, 1) := by decide +kernel
theorem dX4_taste_7 : decode cX4_taste 7 = .ok (.iload_n 2, 1) := by decide +kernel
theorem dX4_taste_8 : decode cX4_taste 8 = .ok (.iload_n 3, 1) := by decide +kernel
theorem dX4_taste_9 : decode cX4_taste 9 = .ok (.iload 4, 2) := by decide +kernel
theorem dX4_taste_11 : decode cX4_taste 11 = .ok (.iload 5, 2) := by decide +kernel
theorem dX4_taste_13 : decode cX4_taste 13 = .ok (.invokevirtual 80, 3) := by decide +kernel
theorem dX4_taste_16 : decode cX4_taste 16 = .ok (.ifCond .eq 12, 3) := by decide +kernel
theorem dX4_taste_19 : decode cX4_taste 19 = .ok (.aload_n 0, 1) := by decide +kernel
theorem dX4_taste_20 : decode cX4_taste 20 = .ok (.iload 6, 2) := by decide +kernel
theorem dX4_taste_22 : decode cX4_taste 22 = .ok (.invokevirtual 59, 3) := by decide +kernel
theorem dX4_taste_25 : decode cX4_taste 25 = .ok (.ifCond .ne 5, 3) := by decide +kernel
theorem dX4_taste_28 : decode cX4_taste 28 = .ok (.iconst (-1), 1) := by decide +kernel
theorem dX4_taste_29 : decode cX4_taste 29 = .ok (.ireturn, 1) := by decide +kernel
theorem dX4_taste_30 : decode cX4_taste 30 = .ok (.aload_n 0, 1) := by decide +kernel
theorem dX4_taste_31 : decode cX4_taste 31 = .ok (.dup, 1) := by decide +kernel
theorem dX4_taste_32 : decode cX4_taste 32 = .ok (.getfield 88, 3) := by decide +kernel
theorem dX4_taste_35 : decode cX4_taste 35 = .ok (.iload_n 1, 1) := by decide +kernel
theorem dX4_taste_36 : decode cX4_taste 36 = .ok (.ifCond .ne 7, 3) := by decide +kernel
theorem dX4_taste_39 : decode cX4_taste 39 = .ok (.lconst 1, 1) := by decide +kernel
theorem dX4_taste_40 : decode cX4_taste 40 = .ok (.goto 17, 3) := by decide +kernel
theorem dX4_taste_43 : decode cX4_taste 43 = .ok (.iload_n 1, 1) := by decide +kernel
theorem dX4_taste_44 : decode cX4_taste 44 = .ok (.iconst 1, 1) := by decide +kernel
theorem dX4_taste_45 : decode cX4_taste 45 = .ok (.if_icmp .ne 9, 3) := by decide +kernel
theorem dX4_taste_48 : decode cX4_taste 48 = .ok (.ldc2_w 92, 3) := by decide +kernel
theorem dX4_taste_51 : decode cX4_taste 51 = .ok (.goto 6, 3) := by decide +kernel
theorem dX4_taste_54 : decode cX4_taste 54 = .ok (.ldc2_w 94, 3) := by decide +kernel
theorem dX4_taste_57 : decode cX4_taste 57 = .ok (.ladd, 1) := by decide +kernel
theorem dX4_taste_58 : decode cX4_taste 58 = .ok (.putfield 88, 3) := by decide +kernel
theorem dX4_taste_61 : decode cX4_taste 61 = .ok (.aload_n 0, 1) := by decide +kernel
theorem dX4_taste_62 : decode cX4_taste 62 = .ok (.iload_n 1, 1) := by decide +kernel
theorem dX4_taste_63 : decode cX4_taste 63 = .ok (.iload_n 2, 1) := by decide +kernel
theorem dX4_taste_64 : decode cX4_taste 64 = .ok (.iload_n 3, 1) := by decide +kernel
theorem dX4_taste_65 : decode cX4_taste 65 = .ok (.iload 4, 2) := by decide +kernel
theorem dX4_taste_67 : decode cX4_taste 67 = .ok (.iload 5, 2) := by decide +kernel
theorem dX4_taste_69 : decode cX4_taste 69 = .ok (.iload 6, 2) := by decide +kernel
theorem dX4_taste_71 : decode cX4_taste 71 = .ok (.invokevirtual 84, 3) := by decide +kernel
theorem dX4_taste_74 : decode cX4_taste 74 = .ok (.ireturn, 1) := by decide +kernel
theorem dX4_chain_0 : decode cX4_chain 0 = .ok (.aload_n 0, 1) := by decide +kernel
theorem dX4_chain_1 : decode cX4_chain 1 = .ok (.iconst 0, 1) := by decide +kernel
theorem dX4_chain_2 : decode cX4_chain 2 = .ok (.putfield 32, 3) := by decide +kernel
theorem dX4_chain_5 : decode cX4_chain 5 = .ok (.iload_n 1, 1) := by decide +kernel
theorem dX4_chain_6 : decode cX4_chain 6 = .ok (.invokestatic 63, 3) := by decide +kernel
theorem dX4_chain_9 : decode cX4_chain 9 = .ok (.ifCond .eq 17, 3) := by decide +kernel
theorem dX4_chain_12 : decode cX4_chain 12 = .ok (.iload_n 2, 1) := by decide +kernel
theorem dX4_chain_13 : decode cX4_chain 13 = .ok (.invokestatic 63, 3) := by decide +kernel
theorem dX4_chain_16 : decode cX4_chain 16 = .ok (.ifCond .eq 10, 3) := by decide +kernel
theorem dX4_chain_19 : decode cX4_chain 19 = .ok (.iload_n 3, 1) := by decide +kernel
theorem dX4_chain_20 : decode cX4_chain 20 = .ok (.invokestatic 63, 3) := by decide +kernel
theorem dX4_chain_23 : decode cX4_chain 23 = .ok (.ifCond .ne 5, 3) := by decide +kernel
theorem dX4_chain_26 : decode cX4_chain 26 = .ok (.iconst (-1), 1) := by decide +kernel
theorem dX4_chain_27 : decode cX4_chain 27 = .ok (.ireturn, 1) := by decide +kernel
theorem dX4_chain_28 : decode cX4_chain 28 = .ok (.iconst 0, 1) := by decide +kernel
theorem dX4_chain_29 : decode cX4_chain 29 = .ok (.istore 4, 2) := by decide +kernel
theorem dX4_chain_31 : decode cX4_chain 31 = .ok (.iload 4, 2) := by decide +kernel
theorem dX4_chain_33 : decode cX4_chain 33 = .ok (.aload_n 0, 1) := by decide +kernel
theorem dX4_chain_34 : decode cX4_chain 34 = .ok (.getfield 39, 3) := by decide +kernel
theorem dX4_chain_37 : decode cX4_chain 37 = .ok (.if_icmp .ge 38, 3) := by decide +kernel
theorem dX4_chain_40 : decode cX4_chain 40 = .ok (.aload_n 0, 1) := by decide +kernel
theorem dX4_chain_41 : decode cX4_chain 41 = .ok (.getfield 19, 3) := by decide +kernel
theorem dX4_chain_44 : decode cX4_chain 44 = .ok (.iload 4, 2) := by decide +kernel
theorem dX4_chain_46 : decode cX4_chain 46 = .ok (.aload_n 0, 1) := by decide +kernel
theorem dX4_chain_47 : decode cX4_chain 47 = .ok (.getfield 16, 3) := by decide +kernel
theorem dX4_chain_50 : decode cX4_chain 50 = .ok (.bipush 16, 2) := by decide +kernel
theorem dX4_chain_52 : decode cX4_chain 52 = .ok (.iload_n 2, 1) := by decide +kernel
theorem dX4_chain_53 : decode cX4_chain 53 = .ok (.imul, 1) := by decide +kernel
theorem dX4_chain_54 : decode cX4_chain 54 = .ok (.aload_n 0, 1) := by decide +kernel
theorem dX4_chain_55 : decode cX4_chain 55 = .ok (.getfield 16, 3) := by decide +kernel
theorem dX4_chain_58 : decode cX4_chain 58 = .ok (.bipush 16, 2) := by decide +kernel
theorem dX4_chain_60 : decode cX4_chain 60 = .ok (.iload_n 3, 1) := by decide +kernel
theorem dX4_chain_61 : decode cX4_chain 61 = .ok (.imul, 1) := by decide +kernel
theorem dX4_chain_62 : decode cX4_chain 62 = .ok (.iload 4, 2) := by decide +kernel
theorem dX4_chain_64 : decode cX4_chain 64 = .ok (.iadd, 1) := by decide +kernel
theorem dX4_chain_65 : decode cX4_chain 65 = .ok (.iaload, 1) := by decide +kernel
theorem dX4_chain_66 : decode cX4_chain 66 = .ok (.iadd, 1) := by decide +kernel
theorem dX4_chain_67 : decode cX4_chain 67 = .ok (.iaload, 1) := by decide +kernel
theorem dX4_chain_68 : decode cX4_chain 68 = .ok (.iastore, 1) := by decide +kernel
theorem dX4_chain_69 : decode cX4_chain 69 = .ok (.iinc 4 1, 3) := by decide +kernel
theorem dX4_chain_72 : decode cX4_chain 72 = .ok (.goto (-41), 3) := by decide +kernel
theorem dX4_chain_75 : decode cX4_chain 75 = .ok (.aload_n 0, 1) := by decide +kernel
theorem dX4_chain_76 : decode cX4_chain 76 = .ok (.iload_n 1, 1) := by decide +kernel
theorem dX4_chain_77 : decode cX4_chain 77 = .ok (.invokevirtual 96, 3) := by decide +kernel
theorem dX4_chain_80 : decode cX4_chain 80 = .ok (.iconst 1, 1) := by decide +kernel
theorem dX4_chain_81 : decode cX4_chain 81 = .ok (.ireturn, 1) := by decide +kernel
theorem dX4_lays_0 : decode cX4_lays 0 = .ok (.iconst 0, 1) := by decide +kernel
theorem dX4_lays_1 : decode cX4_lays 1 = .ok (.istore_n 2, 1) := by decide +kernel
theorem dX4_lays_2 : decode cX4_lays 2 = .ok (.iload_n 2, 1) := by decide +kernel
theorem dX4_lays_3 : decode cX4_lays 3 = .ok (.aload_n 0, 1) := by decide +kernel
theorem dX4_lays_4 : decode cX4_lays 4 = .ok (.getfield 39, 3) := by decide +kernel
theorem dX4_lays_7 : decode cX4_lays 7 = .ok (.if_icmp .ge 26, 3) := by decide +kernel
theorem dX4_lays_10 : decode cX4_lays 10 = .ok (.aload_n 0, 1) := by decide +kernel
theorem dX4_lays_11 : decode cX4_lays 11 = .ok (.getfield 16, 3) := by decide +kernel
theorem dX4_lays_14 : decode cX4_lays 14 = .ok (.bipush 16, 2) := by decide +kernel
theorem dX4_lays_16 : decode cX4_lays 16 = .ok (.iload_n 1, 1) := by decide +kernel
theorem dX4_lays_17 : decode cX4_lays 17 = .ok (.imul, 1) := by decide +kernel
theorem dX4_lays_18 : decode cX4_lays 18 = .ok (.iload_n 2, 1) := by decide +kernel
theorem dX4_lays_19 : decode cX4_lays 19 = .ok (.iadd, 1) := by decide +kernel
theorem dX4_lays_20 : decode cX4_lays 20 = .ok (.aload_n 0, 1) := by decide +kernel
theorem dX4_lays_21 : decode cX4_lays 21 = .ok (.getfield 19, 3) := by decide +kernel
theorem dX4_lays_24 : decode cX4_lays 24 = .ok (.iload_n 2, 1) := by decide +kernel
theorem dX4_lays_25 : decode cX4_lays 25 = .ok (.iaload, 1) := by decide +kernel
theorem dX4_lays_26 : decode cX4_lays 26 = .ok (.iastore, 1) := by decide +kernel
theorem dX4_lays_27 : decode cX4_lays 27 = .ok (.iinc 2 1, 3) := by decide +kernel
theorem dX4_lays_30 : decode cX4_lays 30 = .ok (.goto (-28), 3) := by decide +kernel
theorem dX4_lays_33 : decode cX4_lays 33 = .ok (.return_, 1) := by decide +kernel
theorem dX4_imageOf_0 : decode cX4_imageOf 0 = .ok (.iconst 0, 1) := by decide +kernel
theorem dX4_imageOf_1 : decode cX4_imageOf 1 = .ok (.istore_n 2, 1) := by decide +kernel
theorem dX4_imageOf_2 : decode cX4_imageOf 2 = .ok (.iconst 0, 1) := by decide +kernel
theorem dX4_imageOf_3 : decode cX4_imageOf 3 = .ok (.istore_n 3, 1) := by decide +kernel
theorem dX4_imageOf_4 : decode cX4_imageOf 4 = .ok (.iload_n 3, 1) := by decide +kernel
theorem dX4_imageOf_5 : decode cX4_imageOf 5 = .ok (.aload_n 0, 1) := by decide +kernel
theorem dX4_imageOf_6 : decode cX4_imageOf 6 = .ok (.getfield 39, 3) := by decide +kernel
theorem dX4_imageOf_9 : decode cX4_imageOf 9 = .ok (.if_icmp .ge 25, 3) := by decide +kernel
theorem dX4_imageOf_12 : decode cX4_imageOf 12 = .ok (.iload_n 2, 1) := by decide +kernel
theorem dX4_imageOf_13 : decode cX4_imageOf 13 = .ok (.iconst 1, 1) := by decide +kernel
theorem dX4_imageOf_14 : decode cX4_imageOf 14 = .ok (.aload_n 0, 1) := by decide +kernel
theorem dX4_imageOf_15 : decode cX4_imageOf 15 = .ok (.getfield 16, 3) := by decide +kernel
theorem dX4_imageOf_18 : decode cX4_imageOf 18 = .ok (.bipush 16, 2) := by decide +kernel
theorem dX4_imageOf_20 : decode cX4_imageOf 20 = .ok (.iload_n 1, 1) := by decide +kernel
theorem dX4_imageOf_21 : decode cX4_imageOf 21 = .ok (.imul, 1) := by decide +kernel
theorem dX4_imageOf_22 : decode cX4_imageOf 22 = .ok (.iload_n 3, 1) := by decide +kernel
theorem dX4_imageOf_23 : decode cX4_imageOf 23 = .ok (.iadd, 1) := by decide +kernel
theorem dX4_imageOf_24 : decode cX4_imageOf 24 = .ok (.iaload, 1) := by decide +kernel
theorem dX4_imageOf_25 : decode cX4_imageOf 25 = .ok (.ishl, 1) := by decide +kernel
theorem dX4_imageOf_26 : decode cX4_imageOf 26 = .ok (.ior, 1) := by decide +kernel
theorem dX4_imageOf_27 : decode cX4_imageOf 27 = .ok (.istore_n 2, 1) := by decide +kernel
theorem dX4_imageOf_28 : decode cX4_imageOf 28 = .ok (.iinc 3 1, 3) := by decide +kernel
theorem dX4_imageOf_31 : decode cX4_imageOf 31 = .ok (.goto (-27), 3) := by decide +kernel
theorem dX4_imageOf_34 : decode cX4_imageOf 34 = .ok (.iconst 0, 1) := by decide +kernel
theorem dX4_imageOf_35 : decode cX4_imageOf 35 = .ok (.istore_n 3, 1) := by decide +kernel
theorem dX4_imageOf_36 : decode cX4_imageOf 36 = .ok (.iconst 0, 1) := by decide +kernel
theorem dX4_imageOf_37 : decode cX4_imageOf 37 = .ok (.istore 4, 2) := by decide +kernel
theorem dX4_imageOf_39 : decode cX4_imageOf 39 = .ok (.iload 4, 2) := by decide +kernel
theorem dX4_imageOf_41 : decode cX4_imageOf 41 = .ok (.aload_n 0, 1) := by decide +kernel
theorem dX4_imageOf_42 : decode cX4_imageOf 42 = .ok (.getfield 39, 3) := by decide +kernel
theorem dX4_imageOf_45 : decode cX4_imageOf 45 = .ok (.if_icmp .ge 18, 3) := by decide +kernel
theorem dX4_imageOf_48 : decode cX4_imageOf 48 = .ok (.iload_n 3, 1) := by decide +kernel
theorem dX4_imageOf_49 : decode cX4_imageOf 49 = .ok (.iload_n 2, 1) := by decide +kernel
theorem dX4_imageOf_50 : decode cX4_imageOf 50 = .ok (.iload 4, 2) := by decide +kernel
theorem dX4_imageOf_52 : decode cX4_imageOf 52 = .ok (.ishr, 1) := by decide +kernel
theorem dX4_imageOf_53 : decode cX4_imageOf 53 = .ok (.iconst 1, 1) := by decide +kernel
theorem dX4_imageOf_54 : decode cX4_imageOf 54 = .ok (.iand, 1) := by decide +kernel
theorem dX4_imageOf_55 : decode cX4_imageOf 55 = .ok (.iadd, 1) := by decide +kernel
theorem dX4_imageOf_56 : decode cX4_imageOf 56 = .ok (.istore_n 3, 1) := by decide +kernel
theorem dX4_imageOf_57 : decode cX4_imageOf 57 = .ok (.iinc 4 1, 3) := by decide +kernel
theorem dX4_imageOf_60 : decode cX4_imageOf 60 = .ok (.goto (-21), 3) := by decide +kernel
theorem dX4_imageOf_63 : decode cX4_imageOf 63 = .ok (.iload_n 3, 1) := by decide +kernel
theorem dX4_imageOf_64 : decode cX4_imageOf 64 = .ok (.ireturn, 1) := by decide +kernel
theorem dX4_isShuffle_0 : decode cX4_isShuffle 0 = .ok (.aload_n 0, 1) := by decide +kernel
theorem dX4_isShuffle_1 : decode cX4_isShuffle 1 = .ok (.iload_n 1, 1) := by decide +kernel
theorem dX4_isShuffle_2 : decode cX4_isShuffle 2 = .ok (.invokevirtual 99, 3) := by decide +kernel
theorem dX4_isShuffle_5 : decode cX4_isShuffle 5 = .ok (.aload_n 0, 1) := by decide +kernel
theorem dX4_isShuffle_6 : decode cX4_isShuffle 6 = .ok (.getfield 39, 3) := by decide +kernel
theorem dX4_isShuffle_9 : decode cX4_isShuffle 9 = .ok (.if_icmp .ne 7, 3) := by decide +kernel
theorem dX4_isShuffle_12 : decode cX4_isShuffle 12 = .ok (.iconst 1, 1) := by decide +kernel
theorem dX4_isShuffle_13 : decode cX4_isShuffle 13 = .ok (.goto 4, 3) := by decide +kernel
theorem dX4_isShuffle_16 : decode cX4_isShuffle 16 = .ok (.iconst 0, 1) := by decide +kernel
theorem dX4_isShuffle_17 : decode cX4_isShuffle 17 = .ok (.ireturn, 1) := by decide +kernel
theorem dX4_shuffles_0 : decode cX4_shuffles 0 = .ok (.aload_n 0, 1) := by decide +kernel
theorem dX4_shuffles_1 : decode cX4_shuffles 1 = .ok (.iconst 0, 1) := by decide +kernel
theorem dX4_shuffles_2 : decode cX4_shuffles 2 = .ok (.putfield 32, 3) := by decide +kernel
theorem dX4_shuffles_5 : decode cX4_shuffles 5 = .ok (.iload_n 1, 1) := by decide +kernel
theorem dX4_shuffles_6 : decode cX4_shuffles 6 = .ok (.invokestatic 63, 3) := by decide +kernel
theorem dX4_shuffles_9 : decode cX4_shuffles 9 = .ok (.ifCond .ne 7, 3) := by decide +kernel
theorem dX4_shuffles_12 : decode cX4_shuffles 12 = .ok (.iconst (-1), 1) := by decide +kernel
theorem dX4_shuffles_13 : decode cX4_shuffles 13 = .ok (.goto 16, 3) := by decide +kernel
theorem dX4_shuffles_16 : decode cX4_shuffles 16 = .ok (.aload_n 0, 1) := by decide +kernel
theorem dX4_shuffles_17 : decode cX4_shuffles 17 = .ok (.iload_n 1, 1) := by decide +kernel
theorem dX4_shuffles_18 : decode cX4_shuffles 18 = .ok (.invokevirtual 102, 3) := by decide +kernel
theorem dX4_shuffles_21 : decode cX4_shuffles 21 = .ok (.ifCond .eq 7, 3) := by decide +kernel
theorem dX4_shuffles_24 : decode cX4_shuffles 24 = .ok (.iconst 1, 1) := by decide +kernel
theorem dX4_shuffles_25 : decode cX4_shuffles 25 = .ok (.goto 4, 3) := by decide +kernel
theorem dX4_shuffles_28 : decode cX4_shuffles 28 = .ok (.iconst 0, 1) := by decide +kernel
theorem dX4_shuffles_29 : decode cX4_shuffles 29 = .ok (.ireturn, 1) := by decide +kernel
theorem dX4_fails_0 : decode cX4_fails 0 = .ok (.aload_n 0, 1) := by decide +kernel
theorem dX4_fails_1 : decode cX4_fails 1 = .ok (.iconst 0, 1) := by decide +kernel
theorem dX4_fails_2 : decode cX4_fails 2 = .ok (.putfield 32, 3) := by decide +kernel
theorem dX4_fails_5 : decode cX4_fails 5 = .ok (.iload_n 1, 1) := by decide +kernel
