theorem dX4_fails_6 : decode cX4_fails 6 = .ok (.invokestatic 63, 3) := by decide +kernel
theorem dX4_fails_9 : decode cX4_fails 9 = .ok (.ifCond .ne 5, 3) := by decide +kernel
theorem dX4_fails_12 : decode cX4_fails 12 = .ok (.iconst (-1), 1) := by decide +kernel
theorem dX4_fails_13 : decode cX4_fails 13 = .ok (.ireturn, 1) := by decide +kernel
theorem dX4_fails_14 : decode cX4_fails 14 = .ok (.iconst 1, 1) := by decide +kernel
theorem dX4_fails_15 : decode cX4_fails 15 = .ok (.istore_n 2, 1) := by decide +kernel
theorem dX4_fails_16 : decode cX4_fails 16 = .ok (.iload_n 2, 1) := by decide +kernel
theorem dX4_fails_17 : decode cX4_fails 17 = .ok (.aload_n 0, 1) := by decide +kernel
theorem dX4_fails_18 : decode cX4_fails 18 = .ok (.getfield 39, 3) := by decide +kernel
theorem dX4_fails_21 : decode cX4_fails 21 = .ok (.iconst 1, 1) := by decide +kernel
theorem dX4_fails_22 : decode cX4_fails 22 = .ok (.isub, 1) := by decide +kernel
theorem dX4_fails_23 : decode cX4_fails 23 = .ok (.if_icmp .ge 58, 3) := by decide +kernel
theorem dX4_fails_26 : decode cX4_fails 26 = .ok (.iconst 0, 1) := by decide +kernel
theorem dX4_fails_27 : decode cX4_fails 27 = .ok (.istore_n 3, 1) := by decide +kernel
theorem dX4_fails_28 : decode cX4_fails 28 = .ok (.iconst 0, 1) := by decide +kernel
theorem dX4_fails_29 : decode cX4_fails 29 = .ok (.istore 4, 2) := by decide +kernel
theorem dX4_fails_31 : decode cX4_fails 31 = .ok (.iload 4, 2) := by decide +kernel
theorem dX4_fails_33 : decode cX4_fails 33 = .ok (.aload_n 0, 1) := by decide +kernel
theorem dX4_fails_34 : decode cX4_fails 34 = .ok (.getfield 39, 3) := by decide +kernel
theorem dX4_fails_37 : decode cX4_fails 37 = .ok (.if_icmp .ge 32, 3) := by decide +kernel
theorem dX4_fails_40 : decode cX4_fails 40 = .ok (.aload_n 0, 1) := by decide +kernel
theorem dX4_fails_41 : decode cX4_fails 41 = .ok (.iload_n 3, 1) := by decide +kernel
theorem dX4_fails_42 : decode cX4_fails 42 = .ok (.aload_n 0, 1) := by decide +kernel
theorem dX4_fails_43 : decode cX4_fails 43 = .ok (.aload_n 0, 1) := by decide +kernel
theorem dX4_fails_44 : decode cX4_fails 44 = .ok (.getfield 16, 3) := by decide +kernel
theorem dX4_fails_47 : decode cX4_fails 47 = .ok (.bipush 16, 2) := by decide +kernel
theorem dX4_fails_49 : decode cX4_fails 49 = .ok (.iload_n 1, 1) := by decide +kernel
theorem dX4_fails_50 : decode cX4_fails 50 = .ok (.imul, 1) := by decide +kernel
theorem dX4_fails_51 : decode cX4_fails 51 = .ok (.iload 4, 2) := by decide +kernel
theorem dX4_fails_53 : decode cX4_fails 53 = .ok (.iadd, 1) := by decide +kernel
theorem dX4_fails_54 : decode cX4_fails 54 = .ok (.iaload, 1) := by decide +kernel
theorem dX4_fails_55 : decode cX4_fails 55 = .ok (.iload_n 2, 1) := by decide +kernel
theorem dX4_fails_56 : decode cX4_fails 56 = .ok (.invokevirtual 66, 3) := by decide +kernel
theorem dX4_fails_59 : decode cX4_fails 59 = .ok (.invokevirtual 49, 3) := by decide +kernel
theorem dX4_fails_62 : decode cX4_fails 62 = .ok (.istore_n 3, 1) := by decide +kernel
theorem dX4_fails_63 : decode cX4_fails 63 = .ok (.iinc 4 1, 3) := by decide +kernel
theorem dX4_fails_66 : decode cX4_fails 66 = .ok (.goto (-35), 3) := by decide +kernel
theorem dX4_fails_69 : decode cX4_fails 69 = .ok (.iload_n 3, 1) := by decide +kernel
theorem dX4_fails_70 : decode cX4_fails 70 = .ok (.ifCond .eq 5, 3) := by decide +kernel
theorem dX4_fails_73 : decode cX4_fails 73 = .ok (.iload_n 2, 1) := by decide +kernel
theorem dX4_fails_74 : decode cX4_fails 74 = .ok (.ireturn, 1) := by decide +kernel
theorem dX4_fails_75 : decode cX4_fails 75 = .ok (.iinc 2 1, 3) := by decide +kernel
theorem dX4_fails_78 : decode cX4_fails 78 = .ok (.goto (-62), 3) := by decide +kernel
theorem dX4_fails_81 : decode cX4_fails 81 = .ok (.iconst 0, 1) := by decide +kernel
theorem dX4_fails_82 : decode cX4_fails 82 = .ok (.istore_n 2, 1) := by decide +kernel
theorem dX4_fails_83 : decode cX4_fails 83 = .ok (.iconst 0, 1) := by decide +kernel
theorem dX4_fails_84 : decode cX4_fails 84 = .ok (.istore_n 3, 1) := by decide +kernel
theorem dX4_fails_85 : decode cX4_fails 85 = .ok (.iload_n 3, 1) := by decide +kernel
theorem dX4_fails_86 : decode cX4_fails 86 = .ok (.aload_n 0, 1) := by decide +kernel
theorem dX4_fails_87 : decode cX4_fails 87 = .ok (.getfield 39, 3) := by decide +kernel
theorem dX4_fails_90 : decode cX4_fails 90 = .ok (.if_icmp .ge 31, 3) := by decide +kernel
theorem dX4_fails_93 : decode cX4_fails 93 = .ok (.iload_n 2, 1) := by decide +kernel
theorem dX4_fails_94 : decode cX4_fails 94 = .ok (.aload_n 0, 1) := by decide +kernel
theorem dX4_fails_95 : decode cX4_fails 95 = .ok (.getfield 16, 3) := by decide +kernel
theorem dX4_fails_98 : decode cX4_fails 98 = .ok (.bipush 16, 2) := by decide +kernel
theorem dX4_fails_100 : decode cX4_fails 100 = .ok (.iload_n 1, 1) := by decide +kernel
theorem dX4_fails_101 : decode cX4_fails 101 = .ok (.imul, 1) := by decide +kernel
theorem dX4_fails_102 : decode cX4_fails 102 = .ok (.iload_n 3, 1) := by decide +kernel
theorem dX4_fails_103 : decode cX4_fails 103 = .ok (.iadd, 1) := by decide +kernel
theorem dX4_fails_104 : decode cX4_fails 104 = .ok (.iaload, 1) := by decide +kernel
theorem dX4_fails_105 : decode cX4_fails 105 = .ok (.ifCond .ne 7, 3) := by decide +kernel
theorem dX4_fails_108 : decode cX4_fails 108 = .ok (.iconst 1, 1) := by decide +kernel
theorem dX4_fails_109 : decode cX4_fails 109 = .ok (.goto 4, 3) := by decide +kernel
theorem dX4_fails_112 : decode cX4_fails 112 = .ok (.iconst 0, 1) := by decide +kernel
theorem dX4_fails_113 : decode cX4_fails 113 = .ok (.iadd, 1) := by decide +kernel
theorem dX4_fails_114 : decode cX4_fails 114 = .ok (.istore_n 2, 1) := by decide +kernel
theorem dX4_fails_115 : decode cX4_fails 115 = .ok (.iinc 3 1, 3) := by decide +kernel
theorem dX4_fails_118 : decode cX4_fails 118 = .ok (.goto (-33), 3) := by decide +kernel
theorem dX4_fails_121 : decode cX4_fails 121 = .ok (.iload_n 2, 1) := by decide +kernel
theorem dX4_fails_122 : decode cX4_fails 122 = .ok (.iconst 1, 1) := by decide +kernel
theorem dX4_fails_123 : decode cX4_fails 123 = .ok (.if_icmp .ne 7, 3) := by decide +kernel
theorem dX4_fails_126 : decode cX4_fails 126 = .ok (.iconst 0, 1) := by decide +kernel
theorem dX4_fails_127 : decode cX4_fails 127 = .ok (.goto 9, 3) := by decide +kernel
theorem dX4_fails_130 : decode cX4_fails 130 = .ok (.aload_n 0, 1) := by decide +kernel
theorem dX4_fails_131 : decode cX4_fails 131 = .ok (.getfield 39, 3) := by decide +kernel
theorem dX4_fails_134 : decode cX4_fails 134 = .ok (.iconst 1, 1) := by decide +kernel
theorem dX4_fails_135 : decode cX4_fails 135 = .ok (.isub, 1) := by decide +kernel
theorem dX4_fails_136 : decode cX4_fails 136 = .ok (.ireturn, 1) := by decide +kernel
theorem dX4_image_0 : decode cX4_image 0 = .ok (.aload_n 0, 1) := by decide +kernel
theorem dX4_image_1 : decode cX4_image 1 = .ok (.iconst 0, 1) := by decide +kernel
theorem dX4_image_2 : decode cX4_image 2 = .ok (.putfield 32, 3) := by decide +kernel
theorem dX4_image_5 : decode cX4_image 5 = .ok (.iload_n 1, 1) := by decide +kernel
theorem dX4_image_6 : decode cX4_image 6 = .ok (.invokestatic 63, 3) := by decide +kernel
theorem dX4_image_9 : decode cX4_image 9 = .ok (.ifCond .eq 11, 3) := by decide +kernel
theorem dX4_image_12 : decode cX4_image 12 = .ok (.aload_n 0, 1) := by decide +kernel
theorem dX4_image_13 : decode cX4_image 13 = .ok (.iload_n 1, 1) := by decide +kernel
theorem dX4_image_14 : decode cX4_image 14 = .ok (.invokevirtual 99, 3) := by decide +kernel
theorem dX4_image_17 : decode cX4_image 17 = .ok (.goto 4, 3) := by decide +kernel
theorem dX4_image_20 : decode cX4_image 20 = .ok (.iconst (-1), 1) := by decide +kernel
theorem dX4_image_21 : decode cX4_image 21 = .ok (.ireturn, 1) := by decide +kernel
theorem dX4_turn_0 : decode cX4_turn 0 = .ok (.aload_n 0, 1) := by decide +kernel
theorem dX4_turn_1 : decode cX4_turn 1 = .ok (.iconst 0, 1) := by decide +kernel
theorem dX4_turn_2 : decode cX4_turn 2 = .ok (.putfield 32, 3) := by decide +kernel
theorem dX4_turn_5 : decode cX4_turn 5 = .ok (.iload_n 1, 1) := by decide +kernel
theorem dX4_turn_6 : decode cX4_turn 6 = .ok (.invokestatic 63, 3) := by decide +kernel
theorem dX4_turn_9 : decode cX4_turn 9 = .ok (.ifCond .ne 5, 3) := by decide +kernel
theorem dX4_turn_12 : decode cX4_turn 12 = .ok (.iconst (-1), 1) := by decide +kernel
theorem dX4_turn_13 : decode cX4_turn 13 = .ok (.ireturn, 1) := by decide +kernel
theorem dX4_turn_14 : decode cX4_turn 14 = .ok (.aload_n 0, 1) := by decide +kernel
theorem dX4_turn_15 : decode cX4_turn 15 = .ok (.iload_n 1, 1) := by decide +kernel
theorem dX4_turn_16 : decode cX4_turn 16 = .ok (.invokevirtual 102, 3) := by decide +kernel
theorem dX4_turn_19 : decode cX4_turn 19 = .ok (.ifCond .ne 6, 3) := by decide +kernel
theorem dX4_turn_22 : decode cX4_turn 22 = .ok (.bipush (-2), 2) := by decide +kernel
theorem dX4_turn_24 : decode cX4_turn 24 = .ok (.ireturn, 1) := by decide +kernel
theorem dX4_turn_25 : decode cX4_turn 25 = .ok (.iconst 0, 1) := by decide +kernel
theorem dX4_turn_26 : decode cX4_turn 26 = .ok (.istore_n 2, 1) := by decide +kernel
theorem dX4_turn_27 : decode cX4_turn 27 = .ok (.iload_n 2, 1) := by decide +kernel
theorem dX4_turn_28 : decode cX4_turn 28 = .ok (.aload_n 0, 1) := by decide +kernel
theorem dX4_turn_29 : decode cX4_turn 29 = .ok (.getfield 39, 3) := by decide +kernel
theorem dX4_turn_32 : decode cX4_turn 32 = .ok (.if_icmp .ge 26, 3) := by decide +kernel
theorem dX4_turn_35 : decode cX4_turn 35 = .ok (.aload_n 0, 1) := by decide +kernel
theorem dX4_turn_36 : decode cX4_turn 36 = .ok (.getfield 19, 3) := by decide +kernel
theorem dX4_turn_39 : decode cX4_turn 39 = .ok (.aload_n 0, 1) := by decide +kernel
theorem dX4_turn_40 : decode cX4_turn 40 = .ok (.getfield 16, 3) := by decide +kernel
theorem dX4_turn_43 : decode cX4_turn 43 = .ok (.bipush 16, 2) := by decide +kernel
theorem dX4_turn_45 : decode cX4_turn 45 = .ok (.iload_n 1, 1) := by decide +kernel
theorem dX4_turn_46 : decode cX4_turn 46 = .ok (.imul, 1) := by decide +kernel
theorem dX4_turn_47 : decode cX4_turn 47 = .ok (.iload_n 2, 1) := by decide +kernel
theorem dX4_turn_48 : decode cX4_turn 48 = .ok (.iadd, 1) := by decide +kernel
theorem dX4_turn_49 : decode cX4_turn 49 = .ok (.iaload, 1) := by decide +kernel
theorem dX4_turn_50 : decode cX4_turn 50 = .ok (.iload_n 2, 1) := by decide +kernel
theorem dX4_turn_51 : decode cX4_turn 51 = .ok (.iastore, 1) := by decide +kernel
theorem dX4_turn_52 : decode cX4_turn 52 = .ok (.iinc 2 1, 3) := by decide +kernel
theorem dX4_turn_55 : decode cX4_turn 55 = .ok (.goto (-28), 3) := by decide +kernel
theorem dX4_turn_58 : decode cX4_turn 58 = .ok (.aload_n 0, 1) := by decide +kernel
theorem dX4_turn_59 : decode cX4_turn 59 = .ok (.iload_n 1, 1) := by decide +kernel
theorem dX4_turn_60 : decode cX4_turn 60 = .ok (.invokevirtual 96, 3) := by decide +kernel
theorem dX4_turn_63 : decode cX4_turn 63 = .ok (.iconst 1, 1) := by decide +kernel
theorem dX4_turn_64 : decode cX4_turn 64 = .ok (.ireturn, 1) := by decide +kernel
theorem dX4_order_0 : decode cX4_order 0 = .ok (.aload_n 0, 1) := by decide +kernel
theorem dX4_order_1 : decode cX4_order 1 = .ok (.iconst 0, 1) := by decide +kernel
theorem dX4_order_2 : decode cX4_order 2 = .ok (.putfield 32, 3) := by decide +kernel
theorem dX4_order_5 : decode cX4_order 5 = .ok (.iload_n 1, 1) := by decide +kernel
theorem dX4_order_6 : decode cX4_order 6 = .ok (.invokestatic 63, 3) := by decide +kernel
theorem dX4_order_9 : decode cX4_order 9 = .ok (.ifCond .ne 5, 3) := by decide +kernel
theorem dX4_order_12 : decode cX4_order 12 = .ok (.iconst (-1), 1) := by decide +kernel
theorem dX4_order_13 : decode cX4_order 13 = .ok (.ireturn, 1) := by decide +kernel
theorem dX4_order_14 : decode cX4_order 14 = .ok (.aload_n 0, 1) := by decide +kernel
theorem dX4_order_15 : decode cX4_order 15 = .ok (.iload_n 1, 1) := by decide +kernel
theorem dX4_order_16 : decode cX4_order 16 = .ok (.invokevirtual 102, 3) := by decide +kernel
theorem dX4_order_19 : decode cX4_order 19 = .ok (.ifCond .ne 6, 3) := by decide +kernel
theorem dX4_order_22 : decode cX4_order 22 = .ok (.bipush (-2), 2) := by decide +kernel
theorem dX4_order_24 : decode cX4_order 24 = .ok (.ireturn, 1) := by decide +kernel
theorem dX4_order_25 : decode cX4_order 25 = .ok (.iconst 0, 1) := by decide +kernel
theorem dX4_order_26 : decode cX4_order 26 = .ok (.istore_n 2, 1) := by decide +kernel
theorem dX4_order_27 : decode cX4_order 27 = .ok (.iload_n 2, 1) := by decide +kernel
theorem dX4_order_28 : decode cX4_order 28 = .ok (.aload_n 0, 1) := by decide +kernel
theorem dX4_order_29 : decode cX4_order 29 = .ok (.getfield 39, 3) := by decide +kernel
theorem dX4_order_32 : decode cX4_order 32 = .ok (.if_icmp .ge 26, 3) := by decide +kernel
theorem dX4_order_35 : decode cX4_order 35 = .ok (.aload_n 0, 1) := by decide +kernel
theorem dX4_order_36 : decode cX4_order 36 = .ok (.getfield 19, 3) := by decide +kernel
theorem dX4_order_39 : decode cX4_order 39 = .ok (.iload_n 2, 1) := by decide +kernel
theorem dX4_order_40 : decode cX4_order 40 = .ok (.aload_n 0, 1) := by decide +kernel
theorem dX4_order_41 : decode cX4_order 41 = .ok (.getfield 16, 3) := by decide +kernel
theorem dX4_order_44 : decode cX4_order 44 = .ok (.bipush 16, 2) := by decide +kernel
theorem dX4_order_46 : decode cX4_order 46 = .ok (.iload_n 1, 1) := by decide +kernel
theorem dX4_order_47 : decode cX4_order 47 = .ok (.imul, 1) := by decide +kernel
theorem dX4_order_48 : decode cX4_order 48 = .ok (.iload_n 2, 1) := by decide +kernel
theorem dX4_order_49 : decode cX4_order 49 = .ok (.iadd, 1) := by decide +kernel
theorem dX4_order_50 : decode cX4_order 50 = .ok (.iaload, 1) := by decide +kernel
theorem dX4_order_51 : decode cX4_order 51 = .ok (.iastore, 1) := by decide +kernel
theorem dX4_order_52 : decode cX4_order 52 = .ok (.iinc 2 1, 3) := by decide +kernel
theorem dX4_order_55 : decode cX4_order 55 = .ok (.goto (-28), 3) := by decide +kernel
theorem dX4_order_58 : decode cX4_order 58 = .ok (.iconst 1, 1) := by decide +kernel
theorem dX4_order_59 : decode cX4_order 59 = .ok (.istore_n 2, 1) := by decide +kernel
theorem dX4_order_60 : decode cX4_order 60 = .ok (.iconst 0, 1) := by decide +kernel
theorem dX4_order_61 : decode cX4_order 61 = .ok (.istore_n 3, 1) := by decide +kernel
theorem dX4_order_62 : decode cX4_order 62 = .ok (.iload_n 3, 1) := by decide +kernel
theorem dX4_order_63 : decode cX4_order 63 = .ok (.ifCond .ne 95, 3) := by decide +kernel
theorem dX4_order_66 : decode cX4_order 66 = .ok (.iconst 1, 1) := by decide +kernel
theorem dX4_order_67 : decode cX4_order 67 = .ok (.istore_n 3, 1) := by decide +kernel
theorem dX4_order_68 : decode cX4_order 68 = .ok (.iconst 0, 1) := by decide +kernel
theorem dX4_order_69 : decode cX4_order 69 = .ok (.istore 4, 2) := by decide +kernel
theorem dX4_order_71 : decode cX4_order 71 = .ok (.iload 4, 2) := by decide +kernel
theorem dX4_order_73 : decode cX4_order 73 = .ok (.aload_n 0, 1) := by decide +kernel
theorem dX4_order_74 : decode cX4_order 74 = .ok (.getfield 39, 3) := by decide +kernel
theorem dX4_order_77 : decode cX4_order 77 = .ok (.if_icmp .ge 29, 3) := by decide +kernel
theorem dX4_order_80 : decode cX4_order 80 = .ok (.iload_n 3, 1) := by decide +kernel
theorem dX4_order_81 : decode cX4_order 81 = .ok (.aload_n 0, 1) := by decide +kernel
theorem dX4_order_82 : decode cX4_order 82 = .ok (.getfield 19, 3) := by decide +kernel
theorem dX4_order_85 : decode cX4_order 85 = .ok (.iload 4, 2) := by decide +kernel
theorem dX4_order_87 : decode cX4_order 87 = .ok (.iaload, 1) := by decide +kernel
theorem dX4_order_88 : decode cX4_order 88 = .ok (.iload 4, 2) := by decide +kernel
theorem dX4_order_90 : decode cX4_order 90 = .ok (.if_icmp .ne 7, 3) := by decide +kernel
theorem dX4_order_93 : decode cX4_order 93 = .ok (.iconst 1, 1) := by decide +kernel
theorem dX4_order_94 : decode cX4_order 94 = .ok (.goto 4, 3) := by decide +kernel
theorem dX4_order_97 : decode cX4_order 97 = .ok (.iconst 0, 1) := by decide +kernel
theorem dX4_order_98 : decode cX4_order 98 = .ok (.iand, 1) := by decide +kernel
theorem dX4_order_99 : decode cX4_order 99 = .ok (.istore_n 3, 1) := by decide +kernel
theorem dX4_order_100 : decode cX4_order 100 = .ok (.iinc 4 1, 3) := by decide +kernel
theorem dX4_order_103 : decode cX4_order 103 = .ok (.goto (-32), 3) := by decide +kernel
theorem dX4_order_106 : decode cX4_order 106 = .ok (.iload_n 3, 1) := by decide +kernel
theorem dX4_order_107 : decode cX4_order 107 = .ok (.ifCond .ne (-45), 3) := by decide +kernel
theorem dX4_order_110 : decode cX4_order 110 = .ok (.iinc 2 1, 3) := by decide +kernel
theorem dX4_order_113 : decode cX4_order 113 = .ok (.iconst 0, 1) := by decide +kernel
theorem dX4_order_114 : decode cX4_order 114 = .ok (.istore 4, 2) := by decide +kernel
theorem dX4_order_116 : decode cX4_order 116 = .ok (.iload 4, 2) := by decide +kernel
theorem dX4_order_118 : decode cX4_order 118 = .ok (.aload_n 0, 1) := by decide +kernel
theorem dX4_order_119 : decode cX4_order 119 = .ok (.getfield 39, 3) := by decide +kernel
theorem dX4_order_122 : decode cX4_order 122 = .ok (.if_icmp .ge 33, 3) := by decide +kernel
theorem dX4_order_125 : decode cX4_order 125 = .ok (.aload_n 0, 1) := by decide +kernel
theorem dX4_order_126 : decode cX4_order 126 = .ok (.getfield 19, 3) := by decide +kernel
theorem dX4_order_129 : decode cX4_order 129 = .ok (.iload 4, 2) := by decide +kernel
theorem dX4_order_131 : decode cX4_order 131 = .ok (.aload_n 0, 1) := by decide +kernel
theorem dX4_order_132 : decode cX4_order 132 = .ok (.getfield 16, 3) := by decide +kernel
theorem dX4_order_135 : decode cX4_order 135 = .ok (.bipush 16, 2) := by decide +kernel
theorem dX4_order_137 : decode cX4_order 137 = .ok (.iload_n 1, 1) := by decide +kernel
theorem dX4_order_138 : decode cX4_order 138 = .ok (.imul, 1) := by decide +kernel
theorem dX4_order_139 : decode cX4_order 139 = .ok (.aload_n 0, 1) := by decide +kernel
theorem dX4_order_140 : decode cX4_order 140 = .ok (.getfield 19, 3) := by decide +kernel
theorem dX4_order_143 : decode cX4_order 143 = .ok (.iload 4, 2) := by decide +kernel
theorem dX4_order_145 : decode cX4_order 145 = .ok (.iaload, 1) := by decide +kernel
theorem dX4_order_146 : decode cX4_order 146 = .ok (.iadd, 1) := by decide +kernel
theorem dX4_order_147 : decode cX4_order 147 = .ok (.iaload, 1) := by decide +kernel
theorem dX4_order_148 : decode cX4_order 148 = .ok (.iastore, 1) := by decide +kernel
theorem dX4_order_149 : decode cX4_order 149 = .ok (.iinc 4 1, 3) := by decide +kernel
theorem dX4_order_152 : decode cX4_order 152 = .ok (.goto (-36), 3) := by decide +kernel
theorem dX4_order_155 : decode cX4_order 155 = .ok (.goto (-93), 3) := by decide +kernel
theorem dX4_order_158 : decode cX4_order 158 = .ok (.iload_n 2, 1) := by decide +kernel
theorem dX4_order_159 : decode cX4_order 159 = .ok (.ireturn, 1) := by decide +kernel
theorem dX4_fixed_0 : decode cX4_fixed 0 = .ok (.aload_n 0, 1) := by decide +kernel
theorem dX4_fixed_1 : decode cX4_fixed 1 = .ok (.iconst 0, 1) := by decide +kernel
theorem dX4_fixed_2 : decode cX4_fixed 2 = .ok (.putfield 32, 3) := by decide +kernel
theorem dX4_fixed_5 : decode cX4_fixed 5 = .ok (.iload_n 1, 1) := by decide +kernel
theorem dX4_fixed_6 : decode cX4_fixed 6 = .ok (.invokestatic 63, 3) := by decide +kernel
theorem dX4_fixed_9 : decode cX4_fixed 9 = .ok (.ifCond .ne 5, 3) := by decide +kernel
theorem dX4_fixed_12 : decode cX4_fixed 12 = .ok (.iconst (-1), 1) := by decide +kernel
theorem dX4_fixed_13 : decode cX4_fixed 13 = .ok (.ireturn, 1) := by decide +kernel
theorem dX4_fixed_14 : decode cX4_fixed 14 = .ok (.iconst 0, 1) := by decide +kernel
theorem dX4_fixed_15 : decode cX4_fixed 15 = .ok (.istore_n 2, 1) := by decide +kernel
theorem dX4_fixed_16 : decode cX4_fixed 16 = .ok (.iconst 0, 1) := by decide +kernel
theorem dX4_fixed_17 : decode cX4_fixed 17 = .ok (.istore_n 3, 1) := by decide +kernel
theorem dX4_fixed_18 : decode cX4_fixed 18 = .ok (.iload_n 3, 1) := by decide +kernel
theorem dX4_fixed_19 : decode cX4_fixed 19 = .ok (.aload_n 0, 1) := by decide +kernel
theorem dX4_fixed_20 : decode cX4_fixed 20 = .ok (.getfield 39, 3) := by decide +kernel
theorem dX4_fixed_23 : decode cX4_fixed 23 = .ok (.if_icmp .ge 32, 3) := by decide +kernel
theorem dX4_fixed_26 : decode cX4_fixed 26 = .ok (.iload_n 2, 1) := by decide +kernel
theorem dX4_fixed_27 : decode cX4_fixed 27 = .ok (.aload_n 0, 1) := by decide +kernel
theorem dX4_fixed_28 : decode cX4_fixed 28 = .ok (.getfield 16, 3) := by decide +kernel
theorem dX4_fixed_31 : decode cX4_fixed 31 = .ok (.bipush 16, 2) := by decide +kernel
theorem dX4_fixed_33 : decode cX4_fixed 33 = .ok (.iload_n 1, 1) := by decide +kernel
theorem dX4_fixed_34 : decode cX4_fixed 34 = .ok (.imul, 1) := by decide +kernel
theorem dX4_fixed_35 : decode cX4_fixed 35 = .ok (.iload_n 3, 1) := by decide +kernel
theorem dX4_fixed_36 : decode cX4_fixed 36 = .ok (.iadd, 1) := by decide +kernel
theorem dX4_fixed_37 : decode cX4_fixed 37 = .ok (.iaload, 1) := by decide +kernel
theorem dX4_fixed_38 : decode cX4_fixed 38 = .ok (.iload_n 3, 1) := by decide +kernel
theorem dX4_fixed_39 : decode cX4_fixed 39 = .ok (.if_icmp .ne 7, 3) := by decide +kernel
theorem dX4_fixed_42 : decode cX4_fixed 42 = .ok (.iconst 1, 1) := by decide +kernel
theorem dX4_fixed_43 : decode cX4_fixed 43 = .ok (.goto 4, 3) := by decide +kernel
theorem dX4_fixed_46 : decode cX4_fixed 46 = .ok (.iconst 0, 1) := by decide +kernel
theorem dX4_fixed_47 : decode cX4_fixed 47 = .ok (.iadd, 1) := by decide +kernel
theorem dX4_fixed_48 : decode cX4_fixed 48 = .ok (.istore_n 2, 1) := by decide +kernel
theorem dX4_fixed_49 : decode cX4_fixed 49 = .ok (.iinc 3 1, 3) := by decide +kernel
theorem dX4_fixed_52 : decode cX4_fixed 52 = .ok (.goto (-34), 3) := by decide +kernel
theorem dX4_fixed_55 : decode cX4_fixed 55 = .ok (.iload_n 2, 1) := by decide +kernel
theorem dX4_fixed_56 : decode cX4_fixed 56 = .ok (.ireturn, 1) := by decide +kernel
theorem dX4_differenceOf_0 : decode cX4_differenceOf 0 = .ok (.iconst 0, 1) := by decide +kernel
theorem dX4_differenceOf_1 : decode cX4_differenceOf 1 = .ok (.istore 4, 2) := by decide +kernel
theorem dX4_differenceOf_3 : decode cX4_differenceOf 3 = .ok (.iconst 0, 1) := by decide +kernel
theorem dX4_differenceOf_4 : decode cX4_differenceOf 4 = .ok (.istore 5, 2) := by decide +kernel
theorem dX4_differenceOf_6 : decode cX4_differenceOf 6 = .ok (.iload 5, 2) := by decide +kernel
theorem dX4_differenceOf_8 : decode cX4_differenceOf 8 = .ok (.aload_n 0, 1) := by decide +kernel
theorem dX4_differenceOf_9 : decode cX4_differenceOf 9 = .ok (.getfield 39, 3) := by decide +kernel
theorem dX4_differenceOf_12 : decode cX4_differenceOf 12 = .ok (.if_icmp .ge 56, 3) := by decide +kernel
theorem dX4_differenceOf_15 : decode cX4_differenceOf 15 = .ok (.iload 4, 2) := by decide +kernel
theorem dX4_differenceOf_17 : decode cX4_differenceOf 17 = .ok (.aload_n 0, 1) := by decide +kernel
theorem dX4_differenceOf_18 : decode cX4_differenceOf 18 = .ok (.getfield 16, 3) := by decide +kernel
theorem dX4_differenceOf_21 : decode cX4_differenceOf 21 = .ok (.bipush 16, 2) := by decide +kernel
theorem dX4_differenceOf_23 : decode cX4_differenceOf 23 = .ok (.iload_n 1, 1) := by decide +kernel
theorem dX4_differenceOf_24 : decode cX4_differenceOf 24 = .ok (.imul, 1) := by decide +kernel
theorem dX4_differenceOf_25 : decode cX4_differenceOf 25 = .ok (.aload_n 0, 1) := by decide +kernel
theorem dX4_differenceOf_26 : decode cX4_differenceOf 26 = .ok (.iload 5, 2) := by decide +kernel
theorem dX4_differenceOf_28 : decode cX4_differenceOf 28 = .ok (.iload_n 2, 1) := by decide +kernel
theorem dX4_differenceOf_29 : decode cX4_differenceOf 29 = .ok (.invokevirtual 49, 3) := by decide +kernel
theorem dX4_differenceOf_32 : decode cX4_differenceOf 32 = .ok (.iadd, 1) := by decide +kernel
theorem dX4_differenceOf_33 : decode cX4_differenceOf 33 = .ok (.iaload, 1) := by decide +kernel
theorem dX4_differenceOf_34 : decode cX4_differenceOf 34 = .ok (.aload_n 0, 1) := by decide +kernel
theorem dX4_differenceOf_35 : decode cX4_differenceOf 35 = .ok (.aload_n 0, 1) := by decide +kernel
theorem dX4_differenceOf_36 : decode cX4_differenceOf 36 = .ok (.getfield 16, 3) := by decide +kernel
theorem dX4_differenceOf_39 : decode cX4_differenceOf 39 = .ok (.bipush 16, 2) := by decide +kernel
theorem dX4_differenceOf_41 : decode cX4_differenceOf 41 = .ok (.iload_n 1, 1) := by decide +kernel
theorem dX4_differenceOf_42 : decode cX4_differenceOf 42 = .ok (.imul, 1) := by decide +kernel
theorem dX4_differenceOf_43 : decode cX4_differenceOf 43 = .ok (.iload 5, 2) := by decide +kernel
theorem dX4_differenceOf_45 : decode cX4_differenceOf 45 = .ok (.iadd, 1) := by decide +kernel
theorem dX4_differenceOf_46 : decode cX4_differenceOf 46 = .ok (.iaload, 1) := by decide +kernel
theorem dX4_differenceOf_47 : decode cX4_differenceOf 47 = .ok (.iload_n 3, 1) := by decide +kernel
theorem dX4_differenceOf_48 : decode cX4_differenceOf 48 = .ok (.invokevirtual 49, 3) := by decide +kernel
theorem dX4_differenceOf_51 : decode cX4_differenceOf 51 = .ok (.if_icmp .ne 7, 3) := by decide +kernel
theorem dX4_differenceOf_54 : decode cX4_differenceOf 54 = .ok (.iconst 1, 1) := by decide +kernel
theorem dX4_differenceOf_55 : decode cX4_differenceOf 55 = .ok (.goto 4, 3) := by decide +kernel
theorem dX4_differenceOf_58 : decode cX4_differenceOf 58 = .ok (.iconst 0, 1) := by decide +kernel
theorem dX4_differenceOf_59 : decode cX4_differenceOf 59 = .ok (.iadd, 1) := by decide +kernel
theorem dX4_differenceOf_60 : decode cX4_differenceOf 60 = .ok (.istore 4, 2) := by decide +kernel
theorem dX4_differenceOf_62 : decode cX4_differenceOf 62 = .ok (.iinc 5 1, 3) := by decide +kernel
theorem dX4_differenceOf_65 : decode cX4_differenceOf 65 = .ok (.goto (-59), 3) := by decide +kernel
theorem dX4_differenceOf_68 : decode cX4_differenceOf 68 = .ok (.iload 4, 2) := by decide +kernel
theorem dX4_differenceOf_70 : decode cX4_differenceOf 70 = .ok (.ireturn, 1) := by decide +kernel
theorem dX4_difference_0 : decode cX4_difference 0 = .ok (.aload_n 0, 1) := by decide +kernel
theorem dX4_difference_1 : decode cX4_difference 1 = .ok (.iconst 0, 1) := by decide +kernel
theorem dX4_difference_2 : decode cX4_difference 2 = .ok (.putfield 32, 3) := by decide +kernel
theorem dX4_difference_5 : decode cX4_difference 5 = .ok (.iload_n 1, 1) := by decide +kernel
theorem dX4_difference_6 : decode cX4_difference 6 = .ok (.invokestatic 63, 3) := by decide +kernel
theorem dX4_difference_9 : decode cX4_difference 9 = .ok (.ifCond .eq 35, 3) := by decide +kernel
theorem dX4_difference_12 : decode cX4_difference 12 = .ok (.iload_n 2, 1) := by decide +kernel
theorem dX4_difference_13 : decode cX4_difference 13 = .ok (.iconst 1, 1) := by decide +kernel
theorem dX4_difference_14 : decode cX4_difference 14 = .ok (.aload_n 0, 1) := by decide +kernel
theorem dX4_difference_15 : decode cX4_difference 15 = .ok (.getfield 39, 3) := by decide +kernel
theorem dX4_difference_18 : decode cX4_difference 18 = .ok (.iconst 1, 1) := by decide +kernel
theorem dX4_difference_19 : decode cX4_difference 19 = .ok (.isub, 1) := by decide +kernel
theorem dX4_difference_20 : decode cX4_difference 20 = .ok (.invokestatic 52, 3) := by decide +kernel
theorem dX4_difference_23 : decode cX4_difference 23 = .ok (.ifCond .eq 21, 3) := by decide +kernel
theorem dX4_difference_26 : decode cX4_difference 26 = .ok (.aload_n 0, 1) := by decide +kernel
theorem dX4_difference_27 : decode cX4_difference 27 = .ok (.iload_n 3, 1) := by decide +kernel
theorem dX4_difference_28 : decode cX4_difference 28 = .ok (.invokevirtual 59, 3) := by decide +kernel
theorem dX4_difference_31 : decode cX4_difference 31 = .ok (.ifCond .eq 13, 3) := by decide +kernel
theorem dX4_difference_34 : decode cX4_difference 34 = .ok (.aload_n 0, 1) := by decide +kernel
theorem dX4_difference_35 : decode cX4_difference 35 = .ok (.iload_n 1, 1) := by decide +kernel
theorem dX4_difference_36 : decode cX4_difference 36 = .ok (.iload_n 2, 1) := by decide +kernel
theorem dX4_difference_37 : decode cX4_difference 37 = .ok (.iload_n 3, 1) := by decide +kernel
theorem dX4_difference_38 : decode cX4_difference 38 = .ok (.invokevirtual 105, 3) := by decide +kernel
theorem dX4_difference_41 : decode cX4_difference 41 = .ok (.goto 4, 3) := by decide +kernel
theorem dX4_difference_44 : decode cX4_difference 44 = .ok (.iconst (-1), 1) := by decide +kernel
theorem dX4_difference_45 : decode cX4_difference 45 = .ok (.ireturn, 1) := by decide +kernel
theorem dX4_spreadOf_0 : decode cX4_spreadOf 0 = .ok (.iconst 0, 1) := by decide +kernel
theorem dX4_spreadOf_1 : decode cX4_spreadOf 1 = .ok (.istore_n 2, 1) := by decide +kernel
theorem dX4_spreadOf_2 : decode cX4_spreadOf 2 = .ok (.iconst 1, 1) := by decide +kernel
theorem dX4_spreadOf_3 : decode cX4_spreadOf 3 = .ok (.istore_n 3, 1) := by decide +kernel
theorem dX4_spreadOf_4 : decode cX4_spreadOf 4 = .ok (.iload_n 3, 1) := by decide +kernel
theorem dX4_spreadOf_5 : decode cX4_spreadOf 5 = .ok (.aload_n 0, 1) := by decide +kernel
theorem dX4_spreadOf_6 : decode cX4_spreadOf 6 = .ok (.getfield 39, 3) := by decide +kernel
theorem dX4_spreadOf_9 : decode cX4_spreadOf 9 = .ok (.if_icmp .ge 50, 3) := by decide +kernel
theorem dX4_spreadOf_12 : decode cX4_spreadOf 12 = .ok (.iconst 0, 1) := by decide +kernel
theorem dX4_spreadOf_13 : decode cX4_spreadOf 13 = .ok (.istore 4, 2) := by decide +kernel
theorem dX4_spreadOf_15 : decode cX4_spreadOf 15 = .ok (.iload 4, 2) := by decide +kernel
theorem dX4_spreadOf_17 : decode cX4_spreadOf 17 = .ok (.aload_n 0, 1) := by decide +kernel
theorem dX4_spreadOf_18 : decode cX4_spreadOf 18 = .ok (.getfield 39, 3) := by decide +kernel
theorem dX4_spreadOf_21 : decode cX4_spreadOf 21 = .ok (.if_icmp .ge 32, 3) := by decide +kernel
theorem dX4_spreadOf_24 : decode cX4_spreadOf 24 = .ok (.aload_n 0, 1) := by decide +kernel
theorem dX4_spreadOf_25 : decode cX4_spreadOf 25 = .ok (.iload_n 1, 1) := by decide +kernel
theorem dX4_spreadOf_26 : decode cX4_spreadOf 26 = .ok (.iload_n 3, 1) := by decide +kernel
theorem dX4_spreadOf_27 : decode cX4_spreadOf 27 = .ok (.iload 4, 2) := by decide +kernel
theorem dX4_spreadOf_29 : decode cX4_spreadOf 29 = .ok (.invokevirtual 105, 3) := by decide +kernel
theorem dX4_spreadOf_32 : decode cX4_spreadOf 32 = .ok (.istore 5, 2) := by decide +kernel
theorem dX4_spreadOf_34 : decode cX4_spreadOf 34 = .ok (.iload 5, 2) := by decide +kernel
theorem dX4_spreadOf_36 : decode cX4_spreadOf 36 = .ok (.iload_n 2, 1) := by decide +kernel
theorem dX4_spreadOf_37 : decode cX4_spreadOf 37 = .ok (.if_icmp .le 8, 3) := by decide +kernel
theorem dX4_spreadOf_40 : decode cX4_spreadOf 40 = .ok (.iload 5, 2) := by decide +kernel
theorem dX4_spreadOf_42 : decode cX4_spreadOf 42 = .ok (.goto 4, 3) := by decide +kernel
theorem dX4_spreadOf_45 : decode cX4_spreadOf 45 = .ok (.iload_n 2, 1) := by decide +kernel
theorem dX4_spreadOf_46 : decode cX4_spreadOf 46 = .ok (.istore_n 2, 1) := by decide +kernel
theorem dX4_spreadOf_47 : decode cX4_spreadOf 47 = .ok (.iinc 4 1, 3) := by decide +kernel
theorem dX4_spreadOf_50 : decode cX4_spreadOf 50 = .ok (.goto (-35), 3) := by decide +kernel
theorem dX4_spreadOf_53 : decode cX4_spreadOf 53 = .ok (.iinc 3 1, 3) := by decide +kernel
theorem dX4_spreadOf_56 : decode cX4_spreadOf 56 = .ok (.goto (-52), 3) := by decide +kernel
theorem dX4_spreadOf_59 : decode cX4_spreadOf 59 = .ok (.iload_n 2, 1) := by decide +kernel
theorem dX4_spreadOf_60 : decode cX4_spreadOf 60 = .ok (.ireturn, 1) := by decide +kernel
theorem dX4_spread_0 : decode cX4_spread 0 = .ok (.aload_n 0, 1) := by decide +kernel
theorem dX4_spread_1 : decode cX4_spread 1 = .ok (.iconst 0, 1) := by decide +kernel
theorem dX4_spread_2 : decode cX4_spread 2 = .ok (.putfield 32, 3) := by decide +kernel
theorem dX4_spread_5 : decode cX4_spread 5 = .ok (.iload_n 1, 1) := by decide +kernel
theorem dX4_spread_6 : decode cX4_spread 6 = .ok (.invokestatic 63, 3) := by decide +kernel
theorem dX4_spread_9 : decode cX4_spread 9 = .ok (.ifCond .eq 11, 3) := by decide +kernel
theorem dX4_spread_12 : decode cX4_spread 12 = .ok (.aload_n 0, 1) := by decide +kernel
theorem dX4_spread_13 : decode cX4_spread 13 = .ok (.iload_n 1, 1) := by decide +kernel
theorem dX4_spread_14 : decode cX4_spread 14 = .ok (.invokevirtual 109, 3) := by decide +kernel
theorem dX4_spread_17 : decode cX4_spread 17 = .ok (.goto 4, 3) := by decide +kernel
theorem dX4_spread_20 : decode cX4_spread 20 = .ok (.iconst (-1), 1) := by decide +kernel
theorem dX4_spread_21 : decode cX4_spread 21 = .ok (.ireturn, 1) := by decide +kernel
theorem dX4_planar_0 : decode cX4_planar 0 = .ok (.aload_n 0, 1) := by decide +kernel
theorem dX4_planar_1 : decode cX4_planar 1 = .ok (.iconst 0, 1) := by decide +kernel
theorem dX4_planar_2 : decode cX4_planar 2 = .ok (.putfield 32, 3) := by decide +kernel
theorem dX4_planar_5 : decode cX4_planar 5 = .ok (.iload_n 1, 1) := by decide +kernel
theorem dX4_planar_6 : decode cX4_planar 6 = .ok (.invokestatic 63, 3) := by decide +kernel
theorem dX4_planar_9 : decode cX4_planar 9 = .ok (.ifCond .ne 7, 3) := by decide +kernel
theorem dX4_planar_12 : decode cX4_planar 12 = .ok (.iconst (-1), 1) := by decide +kernel
theorem dX4_planar_13 : decode cX4_planar 13 = .ok (.goto 17, 3) := by decide +kernel
theorem dX4_planar_16 : decode cX4_planar 16 = .ok (.aload_n 0, 1) := by decide +kernel
theorem dX4_planar_17 : decode cX4_planar 17 = .ok (.iload_n 1, 1) := by decide +kernel
theorem dX4_planar_18 : decode cX4_planar 18 = .ok (.invokevirtual 109, 3) := by decide +kernel
theorem dX4_planar_21 : decode cX4_planar 21 = .ok (.iconst 1, 1) := by decide +kernel
theorem dX4_planar_22 : decode cX4_planar 22 = .ok (.if_icmp .ne 7, 3) := by decide +kernel
theorem dX4_planar_25 : decode cX4_planar 25 = .ok (.iconst 1, 1) := by decide +kernel
theorem dX4_planar_26 : decode cX4_planar 26 = .ok (.goto 4, 3) := by decide +kernel
theorem dX4_planar_29 : decode cX4_planar 29 = .ok (.iconst 0, 1) := by decide +kernel
theorem dX4_planar_30 : decode cX4_planar 30 = .ok (.ireturn, 1) := by decide +kernel
theorem dX4_isTwos_0 : decode cX4_isTwos 0 = .ok (.aload_n 0, 1) := by decide +kernel
theorem dX4_isTwos_1 : decode cX4_isTwos 1 = .ok (.getfield 36, 3) := by decide +kernel
theorem dX4_isTwos_4 : decode cX4_isTwos 4 = .ok (.iconst 2, 1) := by decide +kernel
theorem dX4_isTwos_5 : decode cX4_isTwos 5 = .ok (.if_icmp .ne 7, 3) := by decide +kernel
theorem dX4_isTwos_8 : decode cX4_isTwos 8 = .ok (.iconst 1, 1) := by decide +kernel
theorem dX4_isTwos_9 : decode cX4_isTwos 9 = .ok (.goto 4, 3) := by decide +kernel
theorem dX4_isTwos_12 : decode cX4_isTwos 12 = .ok (.iconst 0, 1) := by decide +kernel
theorem dX4_isTwos_13 : decode cX4_isTwos 13 = .ok (.ireturn, 1) := by decide +kernel
theorem dX4_odd_0 : decode cX4_odd 0 = .ok (.iload_n 0, 1) := by decide +kernel
theorem dX4_odd_1 : decode cX4_odd 1 = .ok (.iload_n 0, 1) := by decide +kernel
theorem dX4_odd_2 : decode cX4_odd 2 = .ok (.iconst 1, 1) := by decide +kernel
theorem dX4_odd_3 : decode cX4_odd 3 = .ok (.ishr, 1) := by decide +kernel
theorem dX4_odd_4 : decode cX4_odd 4 = .ok (.ixor, 1) := by decide +kernel
theorem dX4_odd_5 : decode cX4_odd 5 = .ok (.iload_n 0, 1) := by decide +kernel
theorem dX4_odd_6 : decode cX4_odd 6 = .ok (.iconst 2, 1) := by decide +kernel
theorem dX4_odd_7 : decode cX4_odd 7 = .ok (.ishr, 1) := by decide +kernel
theorem dX4_odd_8 : decode cX4_odd 8 = .ok (.ixor, 1) := by decide +kernel
theorem dX4_odd_9 : decode cX4_odd 9 = .ok (.iload_n 0, 1) := by decide +kernel
theorem dX4_odd_10 : decode cX4_odd 10 = .ok (.iconst 3, 1) := by decide +kernel
theorem dX4_odd_11 : decode cX4_odd 11 = .ok (.ishr, 1) := by decide +kernel
theorem dX4_odd_12 : decode cX4_odd 12 = .ok (.ixor, 1) := by decide +kernel
theorem dX4_odd_13 : decode cX4_odd 13 = .ok (.iconst 1, 1) := by decide +kernel
theorem dX4_odd_14 : decode cX4_odd 14 = .ok (.iand, 1) := by decide +kernel
theorem dX4_odd_15 : decode cX4_odd 15 = .ok (.ireturn, 1) := by decide +kernel
theorem dX4_walkOf_0 : decode cX4_walkOf 0 = .ok (.iconst 0, 1) := by decide +kernel
theorem dX4_walkOf_1 : decode cX4_walkOf 1 = .ok (.istore 4, 2) := by decide +kernel
theorem dX4_walkOf_3 : decode cX4_walkOf 3 = .ok (.iconst 0, 1) := by decide +kernel
theorem dX4_walkOf_4 : decode cX4_walkOf 4 = .ok (.istore 5, 2) := by decide +kernel
theorem dX4_walkOf_6 : decode cX4_walkOf 6 = .ok (.iload 5, 2) := by decide +kernel
theorem dX4_walkOf_8 : decode cX4_walkOf 8 = .ok (.aload_n 0, 1) := by decide +kernel
theorem dX4_walkOf_9 : decode cX4_walkOf 9 = .ok (.getfield 39, 3) := by decide +kernel
theorem dX4_walkOf_12 : decode cX4_walkOf 12 = .ok (.if_icmp .ge 46, 3) := by decide +kernel
theorem dX4_walkOf_15 : decode cX4_walkOf 15 = .ok (.iload 4, 2) := by decide +kernel
theorem dX4_walkOf_17 : decode cX4_walkOf 17 = .ok (.iload_n 2, 1) := by decide +kernel
theorem dX4_walkOf_18 : decode cX4_walkOf 18 = .ok (.iload 5, 2) := by decide +kernel
theorem dX4_walkOf_20 : decode cX4_walkOf 20 = .ok (.iand, 1) := by decide +kernel
theorem dX4_walkOf_21 : decode cX4_walkOf 21 = .ok (.invokestatic 112, 3) := by decide +kernel
theorem dX4_walkOf_24 : decode cX4_walkOf 24 = .ok (.iload_n 3, 1) := by decide +kernel
theorem dX4_walkOf_25 : decode cX4_walkOf 25 = .ok (.aload_n 0, 1) := by decide +kernel
theorem dX4_walkOf_26 : decode cX4_walkOf 26 = .ok (.getfield 16, 3) := by decide +kernel
theorem dX4_walkOf_29 : decode cX4_walkOf 29 = .ok (.bipush 16, 2) := by decide +kernel
theorem dX4_walkOf_31 : decode cX4_walkOf 31 = .ok (.iload_n 1, 1) := by decide +kernel
theorem dX4_walkOf_32 : decode cX4_walkOf 32 = .ok (.imul, 1) := by decide +kernel
theorem dX4_walkOf_33 : decode cX4_walkOf 33 = .ok (.iload 5, 2) := by decide +kernel
theorem dX4_walkOf_35 : decode cX4_walkOf 35 = .ok (.iadd, 1) := by decide +kernel
theorem dX4_walkOf_36 : decode cX4_walkOf 36 = .ok (.iaload, 1) := by decide +kernel
theorem dX4_walkOf_37 : decode cX4_walkOf 37 = .ok (.iand, 1) := by decide +kernel
theorem dX4_walkOf_38 : decode cX4_walkOf 38 = .ok (.invokestatic 112, 3) := by decide +kernel
theorem dX4_walkOf_41 : decode cX4_walkOf 41 = .ok (.if_icmp .ne 7, 3) := by decide +kernel
theorem dX4_walkOf_44 : decode cX4_walkOf 44 = .ok (.iconst 1, 1) := by decide +kernel
theorem dX4_walkOf_45 : decode cX4_walkOf 45 = .ok (.goto 4, 3) := by decide +kernel
theorem dX4_walkOf_48 : decode cX4_walkOf 48 = .ok (.iconst (-1), 1) := by decide +kernel
theorem dX4_walkOf_49 : decode cX4_walkOf 49 = .ok (.iadd, 1) := by decide +kernel
theorem dX4_walkOf_50 : decode cX4_walkOf 50 = .ok (.istore 4, 2) := by decide +kernel
theorem dX4_walkOf_52 : decode cX4_walkOf 52 = .ok (.iinc 5 1, 3) := by decide +kernel
theorem dX4_walkOf_55 : decode cX4_walkOf 55 = .ok (.goto (-49), 3) := by decide +kernel
theorem dX4_walkOf_58 : decode cX4_walkOf 58 = .ok (.iload 4, 2) := by decide +kernel
theorem dX4_walkOf_60 : decode cX4_walkOf 60 = .ok (.ireturn, 1) := by decide +kernel
theorem dX4_walk_0 : decode cX4_walk 0 = .ok (.aload_n 0, 1) := by decide +kernel
theorem dX4_walk_1 : decode cX4_walk 1 = .ok (.iconst 0, 1) := by decide +kernel
theorem dX4_walk_2 : decode cX4_walk 2 = .ok (.putfield 32, 3) := by decide +kernel
theorem dX4_walk_5 : decode cX4_walk 5 = .ok (.iload_n 1, 1) := by decide +kernel
theorem dX4_walk_6 : decode cX4_walk 6 = .ok (.invokestatic 63, 3) := by decide +kernel
theorem dX4_walk_9 : decode cX4_walk 9 = .ok (.ifCond .eq 36, 3) := by decide +kernel
theorem dX4_walk_12 : decode cX4_walk 12 = .ok (.aload_n 0, 1) := by decide +kernel
theorem dX4_walk_13 : decode cX4_walk 13 = .ok (.iload_n 2, 1) := by decide +kernel
theorem dX4_walk_14 : decode cX4_walk 14 = .ok (.invokevirtual 59, 3) := by decide +kernel
theorem dX4_walk_17 : decode cX4_walk 17 = .ok (.ifCond .eq 28, 3) := by decide +kernel
theorem dX4_walk_20 : decode cX4_walk 20 = .ok (.aload_n 0, 1) := by decide +kernel
theorem dX4_walk_21 : decode cX4_walk 21 = .ok (.iload_n 3, 1) := by decide +kernel
theorem dX4_walk_22 : decode cX4_walk 22 = .ok (.invokevirtual 59, 3) := by decide +kernel
theorem dX4_walk_25 : decode cX4_walk 25 = .ok (.ifCond .eq 20, 3) := by decide +kernel
theorem dX4_walk_28 : decode cX4_walk 28 = .ok (.aload_n 0, 1) := by decide +kernel
theorem dX4_walk_29 : decode cX4_walk 29 = .ok (.invokevirtual 115, 3) := by decide +kernel
theorem dX4_walk_32 : decode cX4_walk 32 = .ok (.ifCond .eq 13, 3) := by decide +kernel
theorem dX4_walk_35 : decode cX4_walk 35 = .ok (.aload_n 0, 1) := by decide +kernel
theorem dX4_walk_36 : decode cX4_walk 36 = .ok (.iload_n 1, 1) := by decide +kernel
theorem dX4_walk_37 : decode cX4_walk 37 = .ok (.iload_n 2, 1) := by decide +kernel
theorem dX4_walk_38 : decode cX4_walk 38 = .ok (.iload_n 3, 1) := by decide +kernel
theorem dX4_walk_39 : decode cX4_walk 39 = .ok (.invokevirtual 119, 3) := by decide +kernel
theorem dX4_walk_42 : decode cX4_walk 42 = .ok (.goto 5, 3) := by decide +kernel
theorem dX4_walk_45 : decode cX4_walk 45 = .ok (.ldc 122, 2) := by decide +kernel
theorem dX4_walk_47 : decode cX4_walk 47 = .ok (.ireturn, 1) := by decide +kernel
theorem dX4_linear_0 : decode cX4_linear 0 = .ok (.aload_n 0, 1) := by decide +kernel
theorem dX4_linear_1 : decode cX4_linear 1 = .ok (.iconst 0, 1) := by decide +kernel
theorem dX4_linear_2 : decode cX4_linear 2 = .ok (.putfield 32, 3) := by decide +kernel
theorem dX4_linear_5 : decode cX4_linear 5 = .ok (.iload_n 1, 1) := by decide +kernel
theorem dX4_linear_6 : decode cX4_linear 6 = .ok (.invokestatic 63, 3) := by decide +kernel
theorem dX4_linear_9 : decode cX4_linear 9 = .ok (.ifCond .ne 5, 3) := by decide +kernel
theorem dX4_linear_12 : decode cX4_linear 12 = .ok (.iconst (-1), 1) := by decide +kernel
theorem dX4_linear_13 : decode cX4_linear 13 = .ok (.ireturn, 1) := by decide +kernel
theorem dX4_linear_14 : decode cX4_linear 14 = .ok (.aload_n 0, 1) := by decide +kernel
theorem dX4_linear_15 : decode cX4_linear 15 = .ok (.invokevirtual 115, 3) := by decide +kernel
theorem dX4_linear_18 : decode cX4_linear 18 = .ok (.ifCond .ne 6, 3) := by decide +kernel
theorem dX4_linear_21 : decode cX4_linear 21 = .ok (.bipush (-2), 2) := by decide +kernel
theorem dX4_linear_23 : decode cX4_linear 23 = .ok (.ireturn, 1) := by decide +kernel
theorem dX4_linear_24 : decode cX4_linear 24 = .ok (.iconst 0, 1) := by decide +kernel
theorem dX4_linear_25 : decode cX4_linear 25 = .ok (.istore_n 2, 1) := by decide +kernel
theorem dX4_linear_26 : decode cX4_linear 26 = .ok (.iconst 0, 1) := by decide +kernel
theorem dX4_linear_27 : decode cX4_linear 27 = .ok (.istore_n 3, 1) := by decide +kernel
theorem dX4_linear_28 : decode cX4_linear 28 = .ok (.iload_n 3, 1) := by decide +kernel
theorem dX4_linear_29 : decode cX4_linear 29 = .ok (.aload_n 0, 1) := by decide +kernel
theorem dX4_linear_30 : decode cX4_linear 30 = .ok (.getfield 39, 3) := by decide +kernel
theorem dX4_linear_33 : decode cX4_linear 33 = .ok (.if_icmp .ge 65, 3) := by decide +kernel
theorem dX4_linear_36 : decode cX4_linear 36 = .ok (.iconst 1, 1) := by decide +kernel
theorem dX4_linear_37 : decode cX4_linear 37 = .ok (.istore 4, 2) := by decide +kernel
theorem dX4_linear_39 : decode cX4_linear 39 = .ok (.iload 4, 2) := by decide +kernel
theorem dX4_linear_41 : decode cX4_linear 41 = .ok (.aload_n 0, 1) := by decide +kernel
theorem dX4_linear_42 : decode cX4_linear 42 = .ok (.getfield 39, 3) := by decide +kernel
theorem dX4_linear_45 : decode cX4_linear 45 = .ok (.if_icmp .ge 47, 3) := by decide +kernel
theorem dX4_linear_48 : decode cX4_linear 48 = .ok (.aload_n 0, 1) := by decide +kernel
theorem dX4_linear_49 : decode cX4_linear 49 = .ok (.iload_n 1, 1) := by decide +kernel
theorem dX4_linear_50 : decode cX4_linear 50 = .ok (.iload_n 3, 1) := by decide +kernel
theorem dX4_linear_51 : decode cX4_linear 51 = .ok (.iload 4, 2) := by decide +kernel
theorem dX4_linear_53 : decode cX4_linear 53 = .ok (.invokevirtual 119, 3) := by decide +kernel
theorem dX4_linear_56 : decode cX4_linear 56 = .ok (.istore 5, 2) := by decide +kernel
theorem dX4_linear_58 : decode cX4_linear 58 = .ok (.iload 5, 2) := by decide +kernel
theorem dX4_linear_60 : decode cX4_linear 60 = .ok (.ifCond .ge 9, 3) := by decide +kernel
theorem dX4_linear_63 : decode cX4_linear 63 = .ok (.iload 5, 2) := by decide +kernel
theorem dX4_linear_65 : decode cX4_linear 65 = .ok (.ineg, 1) := by decide +kernel
theorem dX4_linear_66 : decode cX4_linear 66 = .ok (.goto 5, 3) := by decide +kernel
theorem dX4_linear_69 : decode cX4_linear 69 = .ok (.iload 5, 2) := by decide +kernel
theorem dX4_linear_71 : decode cX4_linear 71 = .ok (.istore 5, 2) := by decide +kernel
theorem dX4_linear_73 : decode cX4_linear 73 = .ok (.iload 5, 2) := by decide +kernel
theorem dX4_linear_75 : decode cX4_linear 75 = .ok (.iload_n 2, 1) := by decide +kernel
theorem dX4_linear_76 : decode cX4_linear 76 = .ok (.if_icmp .le 8, 3) := by decide +kernel
theorem dX4_linear_79 : decode cX4_linear 79 = .ok (.iload 5, 2) := by decide +kernel
theorem dX4_linear_81 : decode cX4_linear 81 = .ok (.goto 4, 3) := by decide +kernel
theorem dX4_linear_84 : decode cX4_linear 84 = .ok (.iload_n 2, 1) := by decide +kernel
theorem dX4_linear_85 : decode cX4_linear 85 = .ok (.istore_n 2, 1) := by decide +kernel
theorem dX4_linear_86 : decode cX4_linear 86 = .ok (.iinc 4 1, 3) := by decide +kernel
theorem dX4_linear_89 : decode cX4_linear 89 = .ok (.goto (-50), 3) := by decide +kernel
theorem dX4_linear_92 : decode cX4_linear 92 = .ok (.iinc 3 1, 3) := by decide +kernel
theorem dX4_linear_95 : decode cX4_linear 95 = .ok (.goto (-67), 3) := by decide +kernel
theorem dX4_linear_98 : decode cX4_linear 98 = .ok (.iload_n 2, 1) := by decide +kernel
theorem dX4_linear_99 : decode cX4_linear 99 = .ok (.ireturn, 1) := by decide +kernel
theorem dX4_like_0 : decode cX4_like 0 = .ok (.aload_n 0, 1) := by decide +kernel
theorem dX4_like_1 : decode cX4_like 1 = .ok (.iconst 0, 1) := by decide +kernel
theorem dX4_like_2 : decode cX4_like 2 = .ok (.putfield 32, 3) := by decide +kernel
theorem dX4_like_5 : decode cX4_like 5 = .ok (.iload_n 1, 1) := by decide +kernel
theorem dX4_like_6 : decode cX4_like 6 = .ok (.invokestatic 63, 3) := by decide +kernel
theorem dX4_like_9 : decode cX4_like 9 = .ok (.ifCond .eq 10, 3) := by decide +kernel
theorem dX4_like_12 : decode cX4_like 12 = .ok (.iload_n 2, 1) := by decide +kernel
theorem dX4_like_13 : decode cX4_like 13 = .ok (.invokestatic 63, 3) := by decide +kernel
theorem dX4_like_16 : decode cX4_like 16 = .ok (.ifCond .ne 5, 3) := by decide +kernel
theorem dX4_like_19 : decode cX4_like 19 = .ok (.iconst (-1), 1) := by decide +kernel
theorem dX4_like_20 : decode cX4_like 20 = .ok (.ireturn, 1) := by decide +kernel
theorem dX4_like_21 : decode cX4_like 21 = .ok (.iconst 1, 1) := by decide +kernel
theorem dX4_like_22 : decode cX4_like 22 = .ok (.istore_n 3, 1) := by decide +kernel
theorem dX4_like_23 : decode cX4_like 23 = .ok (.iload_n 3, 1) := by decide +kernel
theorem dX4_like_24 : decode cX4_like 24 = .ok (.aload_n 0, 1) := by decide +kernel
theorem dX4_like_25 : decode cX4_like 25 = .ok (.getfield 39, 3) := by decide +kernel
theorem dX4_like_28 : decode cX4_like 28 = .ok (.if_icmp .ge 171, 3) := by decide +kernel
theorem dX4_like_31 : decode cX4_like 31 = .ok (.iconst 1, 1) := by decide +kernel
theorem dX4_like_32 : decode cX4_like 32 = .ok (.istore 4, 2) := by decide +kernel
theorem dX4_like_34 : decode cX4_like 34 = .ok (.iload 4, 2) := by decide +kernel
theorem dX4_like_36 : decode cX4_like 36 = .ok (.aload_n 0, 1) := by decide +kernel
theorem dX4_like_37 : decode cX4_like 37 = .ok (.getfield 39, 3) := by decide +kernel
theorem dX4_like_40 : decode cX4_like 40 = .ok (.if_icmp .ge 153, 3) := by decide +kernel
theorem dX4_like_43 : decode cX4_like 43 = .ok (.iconst 0, 1) := by decide +kernel
theorem dX4_like_44 : decode cX4_like 44 = .ok (.istore 5, 2) := by decide +kernel
theorem dX4_like_46 : decode cX4_like 46 = .ok (.iload 5, 2) := by decide +kernel
theorem dX4_like_48 : decode cX4_like 48 = .ok (.aload_n 0, 1) := by decide +kernel
theorem dX4_like_49 : decode cX4_like 49 = .ok (.getfield 39, 3) := by decide +kernel
theorem dX4_like_52 : decode cX4_like 52 = .ok (.if_icmp .ge 135, 3) := by decide +kernel
theorem dX4_like_55 : decode cX4_like 55 = .ok (.aload_n 0, 1) := by decide +kernel
theorem dX4_like_56 : decode cX4_like 56 = .ok (.aload_n 0, 1) := by decide +kernel
theorem dX4_like_57 : decode cX4_like 57 = .ok (.getfield 16, 3) := by decide +kernel
theorem dX4_like_60 : decode cX4_like 60 = .ok (.bipush 16, 2) := by decide +kernel
theorem dX4_like_62 : decode cX4_like 62 = .ok (.iload_n 2, 1) := by decide +kernel
theorem dX4_like_63 : decode cX4_like 63 = .ok (.imul, 1) := by decide +kernel
theorem dX4_like_64 : decode cX4_like 64 = .ok (.iaload, 1) := by decide +kernel
theorem dX4_like_65 : decode cX4_like 65 = .ok (.aload_n 0, 1) := by decide +kernel
theorem dX4_like_66 : decode cX4_like 66 = .ok (.aload_n 0, 1) := by decide +kernel
theorem dX4_like_67 : decode cX4_like 67 = .ok (.iload_n 3, 1) := by decide +kernel
theorem dX4_like_68 : decode cX4_like 68 = .ok (.aload_n 0, 1) := by decide +kernel
theorem dX4_like_69 : decode cX4_like 69 = .ok (.getfield 16, 3) := by decide +kernel
theorem dX4_like_72 : decode cX4_like 72 = .ok (.bipush 16, 2) := by decide +kernel
theorem dX4_like_74 : decode cX4_like 74 = .ok (.iload_n 1, 1) := by decide +kernel
theorem dX4_like_75 : decode cX4_like 75 = .ok (.imul, 1) := by decide +kernel
theorem dX4_like_76 : decode cX4_like 76 = .ok (.iload 5, 2) := by decide +kernel
theorem dX4_like_78 : decode cX4_like 78 = .ok (.iadd, 1) := by decide +kernel
theorem dX4_like_79 : decode cX4_like 79 = .ok (.iaload, 1) := by decide +kernel
theorem dX4_like_80 : decode cX4_like 80 = .ok (.invokevirtual 56, 3) := by decide +kernel
theorem dX4_like_83 : decode cX4_like 83 = .ok (.invokevirtual 69, 3) := by decide +kernel
theorem dX4_like_86 : decode cX4_like 86 = .ok (.invokevirtual 49, 3) := by decide +kernel
theorem dX4_like_89 : decode cX4_like 89 = .ok (.istore 6, 2) := by decide +kernel
theorem dX4_like_91 : decode cX4_like 91 = .ok (.iconst 1, 1) := by decide +kernel
theorem dX4_like_92 : decode cX4_like 92 = .ok (.istore 7, 2) := by decide +kernel
theorem dX4_like_94 : decode cX4_like 94 = .ok (.iconst 0, 1) := by decide +kernel
theorem dX4_like_95 : decode cX4_like 95 = .ok (.istore 8, 2) := by decide +kernel
theorem dX4_like_97 : decode cX4_like 97 = .ok (.iload 8, 2) := by decide +kernel
theorem dX4_like_99 : decode cX4_like 99 = .ok (.aload_n 0, 1) := by decide +kernel
theorem dX4_like_100 : decode cX4_like 100 = .ok (.getfield 39, 3) := by decide +kernel
theorem dX4_like_103 : decode cX4_like 103 = .ok (.if_icmp .ge 71, 3) := by decide +kernel
theorem dX4_like_106 : decode cX4_like 106 = .ok (.iload 7, 2) := by decide +kernel
theorem dX4_like_108 : decode cX4_like 108 = .ok (.ifCond .eq 66, 3) := by decide +kernel
theorem dX4_like_111 : decode cX4_like 111 = .ok (.aload_n 0, 1) := by decide +kernel
theorem dX4_like_112 : decode cX4_like 112 = .ok (.getfield 16, 3) := by decide +kernel
theorem dX4_like_115 : decode cX4_like 115 = .ok (.bipush 16, 2) := by decide +kernel
theorem dX4_like_117 : decode cX4_like 117 = .ok (.iload_n 2, 1) := by decide +kernel
theorem dX4_like_118 : decode cX4_like 118 = .ok (.imul, 1) := by decide +kernel
theorem dX4_like_119 : decode cX4_like 119 = .ok (.iload 8, 2) := by decide +kernel
theorem dX4_like_121 : decode cX4_like 121 = .ok (.iadd, 1) := by decide +kernel
theorem dX4_like_122 : decode cX4_like 122 = .ok (.iaload, 1) := by decide +kernel
theorem dX4_like_123 : decode cX4_like 123 = .ok (.aload_n 0, 1) := by decide +kernel
theorem dX4_like_124 : decode cX4_like 124 = .ok (.aload_n 0, 1) := by decide +kernel
theorem dX4_like_125 : decode cX4_like 125 = .ok (.iload_n 3, 1) := by decide +kernel
theorem dX4_like_126 : decode cX4_like 126 = .ok (.aload_n 0, 1) := by decide +kernel
theorem dX4_like_127 : decode cX4_like 127 = .ok (.getfield 16, 3) := by decide +kernel
theorem dX4_like_130 : decode cX4_like 130 = .ok (.bipush 16, 2) := by decide +kernel
theorem dX4_like_132 : decode cX4_like 132 = .ok (.iload_n 1, 1) := by decide +kernel
theorem dX4_like_133 : decode cX4_like 133 = .ok (.imul, 1) := by decide +kernel
theorem dX4_like_134 : decode cX4_like 134 = .ok (.aload_n 0, 1) := by decide +kernel
theorem dX4_like_135 : decode cX4_like 135 = .ok (.aload_n 0, 1) := by decide +kernel
theorem dX4_like_136 : decode cX4_like 136 = .ok (.iload 4, 2) := by decide +kernel
theorem dX4_like_138 : decode cX4_like 138 = .ok (.iload 8, 2) := by decide +kernel
theorem dX4_like_140 : decode cX4_like 140 = .ok (.invokevirtual 56, 3) := by decide +kernel
theorem dX4_like_143 : decode cX4_like 143 = .ok (.iload 5, 2) := by decide +kernel
theorem dX4_like_145 : decode cX4_like 145 = .ok (.invokevirtual 49, 3) := by decide +kernel
theorem dX4_like_148 : decode cX4_like 148 = .ok (.iadd, 1) := by decide +kernel
theorem dX4_like_149 : decode cX4_like 149 = .ok (.iaload, 1) := by decide +kernel
theorem dX4_like_150 : decode cX4_like 150 = .ok (.invokevirtual 56, 3) := by decide +kernel
theorem dX4_like_153 : decode cX4_like 153 = .ok (.iload 6, 2) := by decide +kernel
theorem dX4_like_155 : decode cX4_like 155 = .ok (.invokevirtual 49, 3) := by decide +kernel
theorem dX4_like_158 : decode cX4_like 158 = .ok (.if_icmp .ne 7, 3) := by decide +kernel
theorem dX4_like_161 : decode cX4_like 161 = .ok (.iconst 1, 1) := by decide +kernel
theorem dX4_like_162 : decode cX4_like 162 = .ok (.goto 4, 3) := by decide +kernel
theorem dX4_like_165 : decode cX4_like 165 = .ok (.iconst 0, 1) := by decide +kernel
theorem dX4_like_166 : decode cX4_like 166 = .ok (.istore 7, 2) := by decide +kernel
theorem dX4_like_168 : decode cX4_like 168 = .ok (.iinc 8 1, 3) := by decide +kernel
theorem dX4_like_171 : decode cX4_like 171 = .ok (.goto (-74), 3) := by decide +kernel
theorem dX4_like_174 : decode cX4_like 174 = .ok (.iload 7, 2) := by decide +kernel
theorem dX4_like_176 : decode cX4_like 176 = .ok (.ifCond .eq 5, 3) := by decide +kernel
theorem dX4_like_179 : decode cX4_like 179 = .ok (.iconst 1, 1) := by decide +kernel
theorem dX4_like_180 : decode cX4_like 180 = .ok (.ireturn, 1) := by decide +kernel
theorem dX4_like_181 : decode cX4_like 181 = .ok (.iinc 5 1, 3) := by decide +kernel
theorem dX4_like_184 : decode cX4_like 184 = .ok (.goto (-138), 3) := by decide +kernel
theorem dX4_like_187 : decode cX4_like 187 = .ok (.iinc 4 1, 3) := by decide +kernel
theorem dX4_like_190 : decode cX4_like 190 = .ok (.goto (-156), 3) := by decide +kernel
theorem dX4_like_193 : decode cX4_like 193 = .ok (.iinc 3 1, 3) := by decide +kernel
theorem dX4_like_196 : decode cX4_like 196 = .ok (.goto (-173), 3) := by decide +kernel
theorem dX4_like_199 : decode cX4_like 199 = .ok (.iconst 0, 1) := by decide +kernel
theorem dX4_like_200 : decode cX4_like 200 = .ok (.ireturn, 1) := by decide +kernel
theorem dX4_least_0 : decode cX4_least 0 = .ok (.aload_n 0, 1) := by decide +kernel
theorem dX4_least_1 : decode cX4_least 1 = .ok (.iconst 0, 1) := by decide +kernel
theorem dX4_least_2 : decode cX4_least 2 = .ok (.putfield 32, 3) := by decide +kernel
theorem dX4_least_5 : decode cX4_least 5 = .ok (.iload_n 1, 1) := by decide +kernel
theorem dX4_least_6 : decode cX4_least 6 = .ok (.invokestatic 63, 3) := by decide +kernel
theorem dX4_least_9 : decode cX4_least 9 = .ok (.ifCond .ne 5, 3) := by decide +kernel
theorem dX4_least_12 : decode cX4_least 12 = .ok (.iconst (-1), 1) := by decide +kernel
theorem dX4_least_13 : decode cX4_least 13 = .ok (.ireturn, 1) := by decide +kernel
theorem dX4_least_14 : decode cX4_least 14 = .ok (.iconst 0, 1) := by decide +kernel
theorem dX4_least_15 : decode cX4_least 15 = .ok (.istore_n 2, 1) := by decide +kernel
theorem dX4_least_16 : decode cX4_least 16 = .ok (.iload_n 2, 1) := by decide +kernel
theorem dX4_least_17 : decode cX4_least 17 = .ok (.aload_n 0, 1) := by decide +kernel
theorem dX4_least_18 : decode cX4_least 18 = .ok (.getfield 39, 3) := by decide +kernel
theorem dX4_least_21 : decode cX4_least 21 = .ok (.if_icmp .ge 19, 3) := by decide +kernel
theorem dX4_least_24 : decode cX4_least 24 = .ok (.aload_n 0, 1) := by decide +kernel
theorem dX4_least_25 : decode cX4_least 25 = .ok (.getfield 22, 3) := by decide +kernel
theorem dX4_least_28 : decode cX4_least 28 = .ok (.iload_n 2, 1) := by decide +kernel
theorem dX4_least_29 : decode cX4_least 29 = .ok (.aload_n 0, 1) := by decide +kernel
theorem dX4_least_30 : decode cX4_least 30 = .ok (.getfield 39, 3) := by decide +kernel
theorem dX4_least_33 : decode cX4_least 33 = .ok (.iastore, 1) := by decide +kernel
theorem dX4_least_34 : decode cX4_least 34 = .ok (.iinc 2 1, 3) := by decide +kernel
theorem dX4_least_37 : decode cX4_least 37 = .ok (.goto (-21), 3) := by decide +kernel
theorem dX4_least_40 : decode cX4_least 40 = .ok (.iconst 1, 1) := by decide +kernel
theorem dX4_least_41 : decode cX4_least 41 = .ok (.istore_n 2, 1) := by decide +kernel
theorem dX4_least_42 : decode cX4_least 42 = .ok (.iload_n 2, 1) := by decide +kernel
theorem dX4_least_43 : decode cX4_least 43 = .ok (.aload_n 0, 1) := by decide +kernel
theorem dX4_least_44 : decode cX4_least 44 = .ok (.getfield 39, 3) := by decide +kernel
theorem dX4_least_47 : decode cX4_least 47 = .ok (.if_icmp .ge 192, 3) := by decide +kernel
theorem dX4_least_50 : decode cX4_least 50 = .ok (.iconst 1, 1) := by decide +kernel
theorem dX4_least_51 : decode cX4_least 51 = .ok (.istore_n 3, 1) := by decide +kernel
theorem dX4_least_52 : decode cX4_least 52 = .ok (.iload_n 3, 1) := by decide +kernel
theorem dX4_least_53 : decode cX4_least 53 = .ok (.aload_n 0, 1) := by decide +kernel
theorem dX4_least_54 : decode cX4_least 54 = .ok (.getfield 39, 3) := by decide +kernel
theorem dX4_least_57 : decode cX4_least 57 = .ok (.if_icmp .ge 176, 3) := by decide +kernel
theorem dX4_least_60 : decode cX4_least 60 = .ok (.iconst 0, 1) := by decide +kernel
theorem dX4_least_61 : decode cX4_least 61 = .ok (.istore 4, 2) := by decide +kernel
theorem dX4_least_63 : decode cX4_least 63 = .ok (.iload 4, 2) := by decide +kernel
theorem dX4_least_65 : decode cX4_least 65 = .ok (.aload_n 0, 1) := by decide +kernel
theorem dX4_least_66 : decode cX4_least 66 = .ok (.getfield 39, 3) := by decide +kernel
theorem dX4_least_69 : decode cX4_least 69 = .ok (.if_icmp .ge 158, 3) := by decide +kernel
theorem dX4_least_72 : decode cX4_least 72 = .ok (.aload_n 0, 1) := by decide +kernel
theorem dX4_least_73 : decode cX4_least 73 = .ok (.aload_n 0, 1) := by decide +kernel
theorem dX4_least_74 : decode cX4_least 74 = .ok (.iload_n 2, 1) := by decide +kernel
theorem dX4_least_75 : decode cX4_least 75 = .ok (.aload_n 0, 1) := by decide +kernel
theorem dX4_least_76 : decode cX4_least 76 = .ok (.getfield 16, 3) := by decide +kernel
theorem dX4_least_79 : decode cX4_least 79 = .ok (.bipush 16, 2) := by decide +kernel
theorem dX4_least_81 : decode cX4_least 81 = .ok (.iload_n 1, 1) := by decide +kernel
theorem dX4_least_82 : decode cX4_least 82 = .ok (.imul, 1) := by decide +kernel
theorem dX4_least_83 : decode cX4_least 83 = .ok (.iload 4, 2) := by decide +kernel
theorem dX4_least_85 : decode cX4_least 85 = .ok (.iadd, 1) := by decide +kernel
theorem dX4_least_86 : decode cX4_least 86 = .ok (.iaload, 1) := by decide +kernel
theorem dX4_least_87 : decode cX4_least 87 = .ok (.invokevirtual 56, 3) := by decide +kernel
theorem dX4_least_90 : decode cX4_least 90 = .ok (.invokevirtual 69, 3) := by decide +kernel
theorem dX4_least_93 : decode cX4_least 93 = .ok (.istore 5, 2) := by decide +kernel
theorem dX4_least_95 : decode cX4_least 95 = .ok (.iconst 0, 1) := by decide +kernel
theorem dX4_least_96 : decode cX4_least 96 = .ok (.istore 6, 2) := by decide +kernel
theorem dX4_least_98 : decode cX4_least 98 = .ok (.iconst 0, 1) := by decide +kernel
theorem dX4_least_99 : decode cX4_least 99 = .ok (.istore 7, 2) := by decide +kernel
theorem dX4_least_101 : decode cX4_least 101 = .ok (.iload 7, 2) := by decide +kernel
theorem dX4_least_103 : decode cX4_least 103 = .ok (.aload_n 0, 1) := by decide +kernel
theorem dX4_least_104 : decode cX4_least 104 = .ok (.getfield 39, 3) := by decide +kernel
theorem dX4_least_107 : decode cX4_least 107 = .ok (.if_icmp .ge 77, 3) := by decide +kernel
theorem dX4_least_110 : decode cX4_least 110 = .ok (.aload_n 0, 1) := by decide +kernel
theorem dX4_least_111 : decode cX4_least 111 = .ok (.getfield 19, 3) := by decide +kernel
theorem dX4_least_114 : decode cX4_least 114 = .ok (.iload 7, 2) := by decide +kernel
theorem dX4_least_116 : decode cX4_least 116 = .ok (.aload_n 0, 1) := by decide +kernel
theorem dX4_least_117 : decode cX4_least 117 = .ok (.aload_n 0, 1) := by decide +kernel
theorem dX4_least_118 : decode cX4_least 118 = .ok (.iload_n 2, 1) := by decide +kernel
theorem dX4_least_119 : decode cX4_least 119 = .ok (.aload_n 0, 1) := by decide +kernel
theorem dX4_least_120 : decode cX4_least 120 = .ok (.getfield 16, 3) := by decide +kernel
theorem dX4_least_123 : decode cX4_least 123 = .ok (.bipush 16, 2) := by decide +kernel
theorem dX4_least_125 : decode cX4_least 125 = .ok (.iload_n 1, 1) := by decide +kernel
theorem dX4_least_126 : decode cX4_least 126 = .ok (.imul, 1) := by decide +kernel
theorem dX4_least_127 : decode cX4_least 127 = .ok (.aload_n 0, 1) := by decide +kernel
theorem dX4_least_128 : decode cX4_least 128 = .ok (.aload_n 0, 1) := by decide +kernel
theorem dX4_least_129 : decode cX4_least 129 = .ok (.iload_n 3, 1) := by decide +kernel
theorem dX4_least_130 : decode cX4_least 130 = .ok (.iload 7, 2) := by decide +kernel
theorem dX4_least_132 : decode cX4_least 132 = .ok (.invokevirtual 56, 3) := by decide +kernel
theorem dX4_least_135 : decode cX4_least 135 = .ok (.iload 4, 2) := by decide +kernel
theorem dX4_least_137 : decode cX4_least 137 = .ok (.invokevirtual 49, 3) := by decide +kernel
theorem dX4_least_140 : decode cX4_least 140 = .ok (.iadd, 1) := by decide +kernel
theorem dX4_least_141 : decode cX4_least 141 = .ok (.iaload, 1) := by decide +kernel
theorem dX4_least_142 : decode cX4_least 142 = .ok (.invokevirtual 56, 3) := by decide +kernel
theorem dX4_least_145 : decode cX4_least 145 = .ok (.iload 5, 2) := by decide +kernel
theorem dX4_least_147 : decode cX4_least 147 = .ok (.invokevirtual 49, 3) := by decide +kernel
theorem dX4_least_150 : decode cX4_least 150 = .ok (.iastore, 1) := by decide +kernel
theorem dX4_least_151 : decode cX4_least 151 = .ok (.iload 6, 2) := by decide +kernel
theorem dX4_least_153 : decode cX4_least 153 = .ok (.ifCond .ne 21, 3) := by decide +kernel
theorem dX4_least_156 : decode cX4_least 156 = .ok (.aload_n 0, 1) := by decide +kernel
theorem dX4_least_157 : decode cX4_least 157 = .ok (.getfield 19, 3) := by decide +kernel
theorem dX4_least_160 : decode cX4_least 160 = .ok (.iload 7, 2) := by decide +kernel
theorem dX4_least_162 : decode cX4_least 162 = .ok (.iaload, 1) := by decide +kernel
theorem dX4_least_163 : decode cX4_least 163 = .ok (.aload_n 0, 1) := by decide +kernel
theorem dX4_least_164 : decode cX4_least 164 = .ok (.getfield 22, 3) := by decide +kernel
theorem dX4_least_167 : decode cX4_least 167 = .ok (.iload 7, 2) := by decide +kernel
theorem dX4_least_169 : decode cX4_least 169 = .ok (.iaload, 1) := by decide +kernel
theorem dX4_least_170 : decode cX4_least 170 = .ok (.isub, 1) := by decide +kernel
theorem dX4_least_171 : decode cX4_least 171 = .ok (.goto 5, 3) := by decide +kernel
theorem dX4_least_174 : decode cX4_least 174 = .ok (.iload 6, 2) := by decide +kernel
theorem dX4_least_176 : decode cX4_least 176 = .ok (.istore 6, 2) := by decide +kernel
theorem dX4_least_178 : decode cX4_least 178 = .ok (.iinc 7 1, 3) := by decide +kernel
theorem dX4_least_181 : decode cX4_least 181 = .ok (.goto (-80), 3) := by decide +kernel
theorem dX4_least_184 : decode cX4_least 184 = .ok (.iconst 0, 1) := by decide +kernel
theorem dX4_least_185 : decode cX4_least 185 = .ok (.istore 7, 2) := by decide +kernel
theorem dX4_least_187 : decode cX4_least 187 = .ok (.iload 7, 2) := by decide +kernel
theorem dX4_least_189 : decode cX4_least 189 = .ok (.aload_n 0, 1) := by decide +kernel
theorem dX4_least_190 : decode cX4_least 190 = .ok (.getfield 39, 3) := by decide +kernel
theorem dX4_least_193 : decode cX4_least 193 = .ok (.if_icmp .ge 28, 3) := by decide +kernel
theorem dX4_least_196 : decode cX4_least 196 = .ok (.iload 6, 2) := by decide +kernel
theorem dX4_least_198 : decode cX4_least 198 = .ok (.ifCond .ge 23, 3) := by decide +kernel
theorem dX4_least_201 : decode cX4_least 201 = .ok (.aload_n 0, 1) := by decide +kernel
theorem dX4_least_202 : decode cX4_least 202 = .ok (.getfield 22, 3) := by decide +kernel
theorem dX4_least_205 : decode cX4_least 205 = .ok (.iload 7, 2) := by decide +kernel
theorem dX4_least_207 : decode cX4_least 207 = .ok (.aload_n 0, 1) := by decide +kernel
theorem dX4_least_208 : decode cX4_least 208 = .ok (.getfield 19, 3) := by decide +kernel
theorem dX4_least_211 : decode cX4_least 211 = .ok (.iload 7, 2) := by decide +kernel
theorem dX4_least_213 : decode cX4_least 213 = .ok (.iaload, 1) := by decide +kernel
theorem dX4_least_214 : decode cX4_least 214 = .ok (.iastore, 1) := by decide +kernel
theorem dX4_least_215 : decode cX4_least 215 = .ok (.iinc 7 1, 3) := by decide +kernel
theorem dX4_least_218 : decode cX4_least 218 = .ok (.goto (-31), 3) := by decide +kernel
theorem dX4_least_221 : decode cX4_least 221 = .ok (.iinc 4 1, 3) := by decide +kernel
theorem dX4_least_224 : decode cX4_least 224 = .ok (.goto (-161), 3) := by decide +kernel
theorem dX4_least_227 : decode cX4_least 227 = .ok (.iinc 3 1, 3) := by decide +kernel
theorem dX4_least_230 : decode cX4_least 230 = .ok (.goto (-178), 3) := by decide +kernel
theorem dX4_least_233 : decode cX4_least 233 = .ok (.iinc 2 1, 3) := by decide +kernel
theorem dX4_least_236 : decode cX4_least 236 = .ok (.goto (-194), 3) := by decide +kernel
theorem dX4_least_239 : decode cX4_least 239 = .ok (.iconst 0, 1) := by decide +kernel
theorem dX4_least_240 : decode cX4_least 240 = .ok (.istore_n 2, 1) := by decide +kernel
theorem dX4_least_241 : decode cX4_least 241 = .ok (.iload_n 2, 1) := by decide +kernel
theorem dX4_least_242 : decode cX4_least 242 = .ok (.aload_n 0, 1) := by decide +kernel
theorem dX4_least_243 : decode cX4_least 243 = .ok (.getfield 39, 3) := by decide +kernel
theorem dX4_least_246 : decode cX4_least 246 = .ok (.if_icmp .ge 21, 3) := by decide +kernel
theorem dX4_least_249 : decode cX4_least 249 = .ok (.aload_n 0, 1) := by decide +kernel
theorem dX4_least_250 : decode cX4_least 250 = .ok (.getfield 19, 3) := by decide +kernel
theorem dX4_least_253 : decode cX4_least 253 = .ok (.iload_n 2, 1) := by decide +kernel
theorem dX4_least_254 : decode cX4_least 254 = .ok (.aload_n 0, 1) := by decide +kernel
theorem dX4_least_255 : decode cX4_least 255 = .ok (.getfield 22, 3) := by decide +kernel
theorem dX4_least_258 : decode cX4_least 258 = .ok (.iload_n 2, 1) := by decide +kernel
theorem dX4_least_259 : decode cX4_least 259 = .ok (.iaload, 1) := by decide +kernel
theorem dX4_least_260 : decode cX4_least 260 = .ok (.iastore, 1) := by decide +kernel
theorem dX4_least_261 : decode cX4_least 261 = .ok (.iinc 2 1, 3) := by decide +kernel
theorem dX4_least_264 : decode cX4_least 264 = .ok (.goto (-23), 3) := by decide +kernel
theorem dX4_least_267 : decode cX4_least 267 = .ok (.aload_n 0, 1) := by decide +kernel
theorem dX4_least_268 : decode cX4_least 268 = .ok (.iload_n 1, 1) := by decide +kernel
theorem dX4_least_269 : decode cX4_least 269 = .ok (.invokevirtual 96, 3) := by decide +kernel
theorem dX4_least_272 : decode cX4_least 272 = .ok (.iconst 1, 1) := by decide +kernel
theorem dX4_least_273 : decode cX4_least 273 = .ok (.ireturn, 1) := by decide +kernel
theorem dX4_allOf_0 : decode cX4_allOf 0 = .ok (.iconst 1, 1) := by decide +kernel
theorem dX4_allOf_1 : decode cX4_allOf 1 = .ok (.istore_n 2, 1) := by decide +kernel
theorem dX4_allOf_2 : decode cX4_allOf 2 = .ok (.iconst 1, 1) := by decide +kernel
theorem dX4_allOf_3 : decode cX4_allOf 3 = .ok (.istore_n 3, 1) := by decide +kernel
theorem dX4_allOf_4 : decode cX4_allOf 4 = .ok (.iload_n 3, 1) := by decide +kernel
theorem dX4_allOf_5 : decode cX4_allOf 5 = .ok (.iload_n 1, 1) := by decide +kernel
theorem dX4_allOf_6 : decode cX4_allOf 6 = .ok (.if_icmp .ge 27, 3) := by decide +kernel
theorem dX4_allOf_9 : decode cX4_allOf 9 = .ok (.iload_n 2, 1) := by decide +kernel
theorem dX4_allOf_10 : decode cX4_allOf 10 = .ok (.iload_n 2, 1) := by decide +kernel
theorem dX4_allOf_11 : decode cX4_allOf 11 = .ok (.sipush 5000, 3) := by decide +kernel
theorem dX4_allOf_14 : decode cX4_allOf 14 = .ok (.if_icmp .le 7, 3) := by decide +kernel
theorem dX4_allOf_17 : decode cX4_allOf 17 = .ok (.iconst 1, 1) := by decide +kernel
theorem dX4_allOf_18 : decode cX4_allOf 18 = .ok (.goto 7, 3) := by decide +kernel
theorem dX4_allOf_21 : decode cX4_allOf 21 = .ok (.aload_n 0, 1) := by decide +kernel
theorem dX4_allOf_22 : decode cX4_allOf 22 = .ok (.getfield 39, 3) := by decide +kernel
theorem dX4_allOf_25 : decode cX4_allOf 25 = .ok (.imul, 1) := by decide +kernel
theorem dX4_allOf_26 : decode cX4_allOf 26 = .ok (.istore_n 2, 1) := by decide +kernel
theorem dX4_allOf_27 : decode cX4_allOf 27 = .ok (.iinc 3 1, 3) := by decide +kernel
theorem dX4_allOf_30 : decode cX4_allOf 30 = .ok (.goto (-26), 3) := by decide +kernel
theorem dX4_allOf_33 : decode cX4_allOf 33 = .ok (.iload_n 2, 1) := by decide +kernel
theorem dX4_allOf_34 : decode cX4_allOf 34 = .ok (.ireturn, 1) := by decide +kernel
theorem dX4_shufflesAt_0 : decode cX4_shufflesAt 0 = .ok (.iconst 0, 1) := by decide +kernel
theorem dX4_shufflesAt_1 : decode cX4_shufflesAt 1 = .ok (.istore_n 3, 1) := by decide +kernel
theorem dX4_shufflesAt_2 : decode cX4_shufflesAt 2 = .ok (.iconst 0, 1) := by decide +kernel
theorem dX4_shufflesAt_3 : decode cX4_shufflesAt 3 = .ok (.istore 4, 2) := by decide +kernel
theorem dX4_shufflesAt_5 : decode cX4_shufflesAt 5 = .ok (.iconst 0, 1) := by decide +kernel
theorem dX4_shufflesAt_6 : decode cX4_shufflesAt 6 = .ok (.istore 5, 2) := by decide +kernel
theorem dX4_shufflesAt_8 : decode cX4_shufflesAt 8 = .ok (.iload 5, 2) := by decide +kernel
theorem dX4_shufflesAt_10 : decode cX4_shufflesAt 10 = .ok (.aload_n 0, 1) := by decide +kernel
theorem dX4_shufflesAt_11 : decode cX4_shufflesAt 11 = .ok (.getfield 39, 3) := by decide +kernel
theorem dX4_shufflesAt_14 : decode cX4_shufflesAt 14 = .ok (.if_icmp .ge 99, 3) := by decide +kernel
theorem dX4_shufflesAt_17 : decode cX4_shufflesAt 17 = .ok (.aload_n 0, 1) := by decide +kernel
theorem dX4_shufflesAt_18 : decode cX4_shufflesAt 18 = .ok (.iload 5, 2) := by decide +kernel
theorem dX4_shufflesAt_20 : decode cX4_shufflesAt 20 = .ok (.iload_n 1, 1) := by decide +kernel
theorem dX4_shufflesAt_21 : decode cX4_shufflesAt 21 = .ok (.invokevirtual 66, 3) := by decide +kernel
theorem dX4_shufflesAt_24 : decode cX4_shufflesAt 24 = .ok (.istore 6, 2) := by decide +kernel
theorem dX4_shufflesAt_26 : decode cX4_shufflesAt 26 = .ok (.iload_n 2, 1) := by decide +kernel
theorem dX4_shufflesAt_27 : decode cX4_shufflesAt 27 = .ok (.istore 7, 2) := by decide +kernel
theorem dX4_shufflesAt_29 : decode cX4_shufflesAt 29 = .ok (.iconst 1, 1) := by decide +kernel
theorem dX4_shufflesAt_30 : decode cX4_shufflesAt 30 = .ok (.istore 8, 2) := by decide +kernel
theorem dX4_shufflesAt_32 : decode cX4_shufflesAt 32 = .ok (.iload 8, 2) := by decide +kernel
theorem dX4_shufflesAt_34 : decode cX4_shufflesAt 34 = .ok (.iload_n 1, 1) := by decide +kernel
theorem dX4_shufflesAt_35 : decode cX4_shufflesAt 35 = .ok (.if_icmp .ge 45, 3) := by decide +kernel
theorem dX4_shufflesAt_38 : decode cX4_shufflesAt 38 = .ok (.aload_n 0, 1) := by decide +kernel
theorem dX4_shufflesAt_39 : decode cX4_shufflesAt 39 = .ok (.iload 6, 2) := by decide +kernel
theorem dX4_shufflesAt_41 : decode cX4_shufflesAt 41 = .ok (.aload_n 0, 1) := by decide +kernel
theorem dX4_shufflesAt_42 : decode cX4_shufflesAt 42 = .ok (.iload 7, 2) := by decide +kernel
theorem dX4_shufflesAt_44 : decode cX4_shufflesAt 44 = .ok (.aload_n 0, 1) := by decide +kernel
theorem dX4_shufflesAt_45 : decode cX4_shufflesAt 45 = .ok (.getfield 39, 3) := by decide +kernel
theorem dX4_shufflesAt_48 : decode cX4_shufflesAt 48 = .ok (.irem, 1) := by decide +kernel
theorem dX4_shufflesAt_49 : decode cX4_shufflesAt 49 = .ok (.aload_n 0, 1) := by decide +kernel
theorem dX4_shufflesAt_50 : decode cX4_shufflesAt 50 = .ok (.iload 5, 2) := by decide +kernel
theorem dX4_shufflesAt_52 : decode cX4_shufflesAt 52 = .ok (.iload 8, 2) := by decide +kernel
theorem dX4_shufflesAt_54 : decode cX4_shufflesAt 54 = .ok (.invokevirtual 66, 3) := by decide +kernel
theorem dX4_shufflesAt_57 : decode cX4_shufflesAt 57 = .ok (.invokevirtual 56, 3) := by decide +kernel
theorem dX4_shufflesAt_60 : decode cX4_shufflesAt 60 = .ok (.invokevirtual 49, 3) := by decide +kernel
theorem dX4_shufflesAt_63 : decode cX4_shufflesAt 63 = .ok (.istore 6, 2) := by decide +kernel
theorem dX4_shufflesAt_65 : decode cX4_shufflesAt 65 = .ok (.iload 7, 2) := by decide +kernel
theorem dX4_shufflesAt_67 : decode cX4_shufflesAt 67 = .ok (.aload_n 0, 1) := by decide +kernel
theorem dX4_shufflesAt_68 : decode cX4_shufflesAt 68 = .ok (.getfield 39, 3) := by decide +kernel
theorem dX4_shufflesAt_71 : decode cX4_shufflesAt 71 = .ok (.idiv, 1) := by decide +kernel
theorem dX4_shufflesAt_72 : decode cX4_shufflesAt 72 = .ok (.istore 7, 2) := by decide +kernel
theorem dX4_shufflesAt_74 : decode cX4_shufflesAt 74 = .ok (.iinc 8 1, 3) := by decide +kernel
theorem dX4_shufflesAt_77 : decode cX4_shufflesAt 77 = .ok (.goto (-45), 3) := by decide +kernel
theorem dX4_shufflesAt_80 : decode cX4_shufflesAt 80 = .ok (.aload_n 0, 1) := by decide +kernel
theorem dX4_shufflesAt_81 : decode cX4_shufflesAt 81 = .ok (.getfield 19, 3) := by decide +kernel
theorem dX4_shufflesAt_84 : decode cX4_shufflesAt 84 = .ok (.iload 5, 2) := by decide +kernel
theorem dX4_shufflesAt_86 : decode cX4_shufflesAt 86 = .ok (.iload 6, 2) := by decide +kernel
theorem dX4_shufflesAt_88 : decode cX4_shufflesAt 88 = .ok (.iastore, 1) := by decide +kernel
theorem dX4_shufflesAt_89 : decode cX4_shufflesAt 89 = .ok (.iload 4, 2) := by decide +kernel
theorem dX4_shufflesAt_91 : decode cX4_shufflesAt 91 = .ok (.iload_n 3, 1) := by decide +kernel
theorem dX4_shufflesAt_92 : decode cX4_shufflesAt 92 = .ok (.iload 6, 2) := by decide +kernel
theorem dX4_shufflesAt_94 : decode cX4_shufflesAt 94 = .ok (.ishr, 1) := by decide +kernel
theorem dX4_shufflesAt_95 : decode cX4_shufflesAt 95 = .ok (.iconst 1, 1) := by decide +kernel
theorem dX4_shufflesAt_96 : decode cX4_shufflesAt 96 = .ok (.iand, 1) := by decide +kernel
theorem dX4_shufflesAt_97 : decode cX4_shufflesAt 97 = .ok (.iadd, 1) := by decide +kernel
theorem dX4_shufflesAt_98 : decode cX4_shufflesAt 98 = .ok (.istore 4, 2) := by decide +kernel
theorem dX4_shufflesAt_100 : decode cX4_shufflesAt 100 = .ok (.iload_n 3, 1) := by decide +kernel
theorem dX4_shufflesAt_101 : decode cX4_shufflesAt 101 = .ok (.iconst 1, 1) := by decide +kernel
theorem dX4_shufflesAt_102 : decode cX4_shufflesAt 102 = .ok (.iload 6, 2) := by decide +kernel
theorem dX4_shufflesAt_104 : decode cX4_shufflesAt 104 = .ok (.ishl, 1) := by decide +kernel
theorem dX4_shufflesAt_105 : decode cX4_shufflesAt 105 = .ok (.ior, 1) := by decide +kernel
theorem dX4_shufflesAt_106 : decode cX4_shufflesAt 106 = .ok (.istore_n 3, 1) := by decide +kernel
theorem dX4_shufflesAt_107 : decode cX4_shufflesAt 107 = .ok (.iinc 5 1, 3) := by decide +kernel
theorem dX4_shufflesAt_110 : decode cX4_shufflesAt 110 = .ok (.goto (-102), 3) := by decide +kernel
theorem dX4_shufflesAt_113 : decode cX4_shufflesAt 113 = .ok (.iload 4, 2) := by decide +kernel
theorem dX4_shufflesAt_115 : decode cX4_shufflesAt 115 = .ok (.ifCond .ne 7, 3) := by decide +kernel
theorem dX4_shufflesAt_118 : decode cX4_shufflesAt 118 = .ok (.iconst 1, 1) := by decide +kernel
theorem dX4_shufflesAt_119 : decode cX4_shufflesAt 119 = .ok (.goto 4, 3) := by decide +kernel
theorem dX4_shufflesAt_122 : decode cX4_shufflesAt 122 = .ok (.iconst 0, 1) := by decide +kernel
theorem dX4_shufflesAt_123 : decode cX4_shufflesAt 123 = .ok (.ireturn, 1) := by decide +kernel
theorem dX4_many_0 : decode cX4_many 0 = .ok (.aload_n 0, 1) := by decide +kernel
theorem dX4_many_1 : decode cX4_many 1 = .ok (.iconst 0, 1) := by decide +kernel
theorem dX4_many_2 : decode cX4_many 2 = .ok (.putfield 32, 3) := by decide +kernel
theorem dX4_many_5 : decode cX4_many 5 = .ok (.iload_n 1, 1) := by decide +kernel
theorem dX4_many_6 : decode cX4_many 6 = .ok (.iconst 1, 1) := by decide +kernel
theorem dX4_many_7 : decode cX4_many 7 = .ok (.iconst 5, 1) := by decide +kernel
theorem dX4_many_8 : decode cX4_many 8 = .ok (.invokestatic 52, 3) := by decide +kernel
theorem dX4_many_11 : decode cX4_many 11 = .ok (.ifCond .ne 5, 3) := by decide +kernel
theorem dX4_many_14 : decode cX4_many 14 = .ok (.iconst (-1), 1) := by decide +kernel
theorem dX4_many_15 : decode cX4_many 15 = .ok (.ireturn, 1) := by decide +kernel
theorem dX4_many_16 : decode cX4_many 16 = .ok (.aload_n 0, 1) := by decide +kernel
theorem dX4_many_17 : decode cX4_many 17 = .ok (.iload_n 1, 1) := by decide +kernel
theorem dX4_many_18 : decode cX4_many 18 = .ok (.invokevirtual 123, 3) := by decide +kernel
theorem dX4_many_21 : decode cX4_many 21 = .ok (.istore_n 2, 1) := by decide +kernel
theorem dX4_many_22 : decode cX4_many 22 = .ok (.iload_n 2, 1) := by decide +kernel
theorem dX4_many_23 : decode cX4_many 23 = .ok (.sipush 5000, 3) := by decide +kernel
theorem dX4_many_26 : decode cX4_many 26 = .ok (.if_icmp .le 6, 3) := by decide +kernel
theorem dX4_many_29 : decode cX4_many 29 = .ok (.bipush (-3), 2) := by decide +kernel
theorem dX4_many_31 : decode cX4_many 31 = .ok (.ireturn, 1) := by decide +kernel
theorem dX4_many_32 : decode cX4_many 32 = .ok (.iconst 0, 1) := by decide +kernel
theorem dX4_many_33 : decode cX4_many 33 = .ok (.istore_n 3, 1) := by decide +kernel
theorem dX4_many_34 : decode cX4_many 34 = .ok (.iconst 0, 1) := by decide +kernel
theorem dX4_many_35 : decode cX4_many 35 = .ok (.istore 4, 2) := by decide +kernel
theorem dX4_many_37 : decode cX4_many 37 = .ok (.iload 4, 2) := by decide +kernel
theorem dX4_many_39 : decode cX4_many 39 = .ok (.iload_n 2, 1) := by decide +kernel
theorem dX4_many_40 : decode cX4_many 40 = .ok (.if_icmp .ge 27, 3) := by decide +kernel
theorem dX4_many_43 : decode cX4_many 43 = .ok (.iload_n 3, 1) := by decide +kernel
theorem dX4_many_44 : decode cX4_many 44 = .ok (.aload_n 0, 1) := by decide +kernel
theorem dX4_many_45 : decode cX4_many 45 = .ok (.iload_n 1, 1) := by decide +kernel
theorem dX4_many_46 : decode cX4_many 46 = .ok (.iload 4, 2) := by decide +kernel
theorem dX4_many_48 : decode cX4_many 48 = .ok (.invokevirtual 126, 3) := by decide +kernel
theorem dX4_many_51 : decode cX4_many 51 = .ok (.ifCond .eq 7, 3) := by decide +kernel
theorem dX4_many_54 : decode cX4_many 54 = .ok (.iconst 1, 1) := by decide +kernel
theorem dX4_many_55 : decode cX4_many 55 = .ok (.goto 4, 3) := by decide +kernel
theorem dX4_many_58 : decode cX4_many 58 = .ok (.iconst 0, 1) := by decide +kernel
theorem dX4_many_59 : decode cX4_many 59 = .ok (.iadd, 1) := by decide +kernel
theorem dX4_many_60 : decode cX4_many 60 = .ok (.istore_n 3, 1) := by decide +kernel
theorem dX4_many_61 : decode cX4_many 61 = .ok (.iinc 4 1, 3) := by decide +kernel
theorem dX4_many_64 : decode cX4_many 64 = .ok (.goto (-27), 3) := by decide +kernel
theorem dX4_many_67 : decode cX4_many 67 = .ok (.iload_n 3, 1) := by decide +kernel
theorem dX4_many_68 : decode cX4_many 68 = .ok (.ireturn, 1) := by decide +kernel
theorem dX4_pick_0 : decode cX4_pick 0 = .ok (.aload_n 0, 1) := by decide +kernel
theorem dX4_pick_1 : decode cX4_pick 1 = .ok (.iconst 0, 1) := by decide +kernel
theorem dX4_pick_2 : decode cX4_pick 2 = .ok (.putfield 32, 3) := by decide +kernel
theorem dX4_pick_5 : decode cX4_pick 5 = .ok (.iload_n 1, 1) := by decide +kernel
theorem dX4_pick_6 : decode cX4_pick 6 = .ok (.invokestatic 63, 3) := by decide +kernel
theorem dX4_pick_9 : decode cX4_pick 9 = .ok (.ifCond .eq 16, 3) := by decide +kernel
theorem dX4_pick_12 : decode cX4_pick 12 = .ok (.iload_n 2, 1) := by decide +kernel
theorem dX4_pick_13 : decode cX4_pick 13 = .ok (.iconst 1, 1) := by decide +kernel
theorem dX4_pick_14 : decode cX4_pick 14 = .ok (.iconst 5, 1) := by decide +kernel
theorem dX4_pick_15 : decode cX4_pick 15 = .ok (.invokestatic 52, 3) := by decide +kernel
theorem dX4_pick_18 : decode cX4_pick 18 = .ok (.ifCond .eq 7, 3) := by decide +kernel
theorem dX4_pick_21 : decode cX4_pick 21 = .ok (.iload_n 3, 1) := by decide +kernel
theorem dX4_pick_22 : decode cX4_pick 22 = .ok (.ifCond .ge 5, 3) := by decide +kernel
theorem dX4_pick_25 : decode cX4_pick 25 = .ok (.iconst (-1), 1) := by decide +kernel
theorem dX4_pick_26 : decode cX4_pick 26 = .ok (.ireturn, 1) := by decide +kernel
theorem dX4_pick_27 : decode cX4_pick 27 = .ok (.aload_n 0, 1) := by decide +kernel
theorem dX4_pick_28 : decode cX4_pick 28 = .ok (.iload_n 2, 1) := by decide +kernel
theorem dX4_pick_29 : decode cX4_pick 29 = .ok (.invokevirtual 123, 3) := by decide +kernel
theorem dX4_pick_32 : decode cX4_pick 32 = .ok (.istore 4, 2) := by decide +kernel
theorem dX4_pick_34 : decode cX4_pick 34 = .ok (.iload 4, 2) := by decide +kernel
theorem dX4_pick_36 : decode cX4_pick 36 = .ok (.sipush 5000, 3) := by decide +kernel
theorem dX4_pick_39 : decode cX4_pick 39 = .ok (.if_icmp .le 6, 3) := by decide +kernel
theorem dX4_pick_42 : decode cX4_pick 42 = .ok (.bipush (-3), 2) := by decide +kernel
theorem dX4_pick_44 : decode cX4_pick 44 = .ok (.ireturn, 1) := by decide +kernel
theorem dX4_pick_45 : decode cX4_pick 45 = .ok (.iconst 0, 1) := by decide +kernel
theorem dX4_pick_46 : decode cX4_pick 46 = .ok (.istore 5, 2) := by decide +kernel
theorem dX4_pick_48 : decode cX4_pick 48 = .ok (.iconst 0, 1) := by decide +kernel
theorem dX4_pick_49 : decode cX4_pick 49 = .ok (.istore 6, 2) := by decide +kernel
theorem dX4_pick_51 : decode cX4_pick 51 = .ok (.iload 6, 2) := by decide +kernel
theorem dX4_pick_53 : decode cX4_pick 53 = .ok (.iload 4, 2) := by decide +kernel
theorem dX4_pick_55 : decode cX4_pick 55 = .ok (.if_icmp .ge 36, 3) := by decide +kernel
theorem dX4_pick_58 : decode cX4_pick 58 = .ok (.aload_n 0, 1) := by decide +kernel
theorem dX4_pick_59 : decode cX4_pick 59 = .ok (.iload_n 2, 1) := by decide +kernel
theorem dX4_pick_60 : decode cX4_pick 60 = .ok (.iload 6, 2) := by decide +kernel
theorem dX4_pick_62 : decode cX4_pick 62 = .ok (.invokevirtual 126, 3) := by decide +kernel
theorem dX4_pick_65 : decode cX4_pick 65 = .ok (.ifCond .eq 20, 3) := by decide +kernel
theorem dX4_pick_68 : decode cX4_pick 68 = .ok (.iload 5, 2) := by decide +kernel
theorem dX4_pick_70 : decode cX4_pick 70 = .ok (.iload_n 3, 1) := by decide +kernel
theorem dX4_pick_71 : decode cX4_pick 71 = .ok (.if_icmp .ne 11, 3) := by decide +kernel
theorem dX4_pick_74 : decode cX4_pick 74 = .ok (.aload_n 0, 1) := by decide +kernel
theorem dX4_pick_75 : decode cX4_pick 75 = .ok (.iload_n 1, 1) := by decide +kernel
theorem dX4_pick_76 : decode cX4_pick 76 = .ok (.invokevirtual 96, 3) := by decide +kernel
theorem dX4_pick_79 : decode cX4_pick 79 = .ok (.iload 6, 2) := by decide +kernel
theorem dX4_pick_81 : decode cX4_pick 81 = .ok (.ireturn, 1) := by decide +kernel
theorem dX4_pick_82 : decode cX4_pick 82 = .ok (.iinc 5 1, 3) := by decide +kernel
theorem dX4_pick_85 : decode cX4_pick 85 = .ok (.iinc 6 1, 3) := by decide +kernel
theorem dX4_pick_88 : decode cX4_pick 88 = .ok (.goto (-37), 3) := by decide +kernel
theorem dX4_pick_91 : decode cX4_pick 91 = .ok (.iconst (-1), 1) := by decide +kernel
theorem dX4_pick_92 : decode cX4_pick 92 = .ok (.ireturn, 1) := by decide +kernel
theorem dX4_count_0 : decode cX4_count 0 = .ok (.aload_n 0, 1) := by decide +kernel
theorem dX4_count_1 : decode cX4_count 1 = .ok (.iconst 0, 1) := by decide +kernel
theorem dX4_count_2 : decode cX4_count 2 = .ok (.putfield 32, 3) := by decide +kernel
theorem dX4_count_5 : decode cX4_count 5 = .ok (.iconst 0, 1) := by decide +kernel
theorem dX4_count_6 : decode cX4_count 6 = .ok (.istore_n 2, 1) := by decide +kernel
theorem dX4_count_7 : decode cX4_count 7 = .ok (.iconst 0, 1) := by decide +kernel
theorem dX4_count_8 : decode cX4_count 8 = .ok (.istore_n 3, 1) := by decide +kernel
theorem dX4_count_9 : decode cX4_count 9 = .ok (.iload_n 3, 1) := by decide +kernel
theorem dX4_count_10 : decode cX4_count 10 = .ok (.iconst 4, 1) := by decide +kernel
theorem dX4_count_11 : decode cX4_count 11 = .ok (.if_icmp .ge 25, 3) := by decide +kernel
theorem dX4_count_14 : decode cX4_count 14 = .ok (.iload_n 2, 1) := by decide +kernel
theorem dX4_count_15 : decode cX4_count 15 = .ok (.aload_n 0, 1) := by decide +kernel
theorem dX4_count_16 : decode cX4_count 16 = .ok (.iload_n 3, 1) := by decide +kernel
theorem dX4_count_17 : decode cX4_count 17 = .ok (.invokevirtual 102, 3) := by decide +kernel
theorem dX4_count_20 : decode cX4_count 20 = .ok (.ifCond .eq 7, 3) := by decide +kernel
theorem dX4_count_23 : decode cX4_count 23 = .ok (.iconst 1, 1) := by decide +kernel
theorem dX4_count_24 : decode cX4_count 24 = .ok (.goto 4, 3) := by decide +kernel
theorem dX4_count_27 : decode cX4_count 27 = .ok (.iconst 0, 1) := by decide +kernel
theorem dX4_count_28 : decode cX4_count 28 = .ok (.iadd, 1) := by decide +kernel
theorem dX4_count_29 : decode cX4_count 29 = .ok (.istore_n 2, 1) := by decide +kernel
theorem dX4_count_30 : decode cX4_count 30 = .ok (.iinc 3 1, 3) := by decide +kernel
theorem dX4_count_33 : decode cX4_count 33 = .ok (.goto (-24), 3) := by decide +kernel
theorem dX4_count_36 : decode cX4_count 36 = .ok (.iload_n 1, 1) := by decide +kernel
theorem dX4_count_37 : decode cX4_count 37 = .ok (.ifCond .ne 10, 3) := by decide +kernel
theorem dX4_count_40 : decode cX4_count 40 = .ok (.aload_n 0, 1) := by decide +kernel
theorem dX4_count_41 : decode cX4_count 41 = .ok (.getfield 39, 3) := by decide +kernel
theorem dX4_count_44 : decode cX4_count 44 = .ok (.goto 25, 3) := by decide +kernel
theorem dX4_count_47 : decode cX4_count 47 = .ok (.iload_n 1, 1) := by decide +kernel
theorem dX4_count_48 : decode cX4_count 48 = .ok (.iconst 1, 1) := by decide +kernel
theorem dX4_count_49 : decode cX4_count 49 = .ok (.if_icmp .ne 10, 3) := by decide +kernel
theorem dX4_count_52 : decode cX4_count 52 = .ok (.aload_n 0, 1) := by decide +kernel
theorem dX4_count_53 : decode cX4_count 53 = .ok (.getfield 36, 3) := by decide +kernel
theorem dX4_count_56 : decode cX4_count 56 = .ok (.goto 13, 3) := by decide +kernel
theorem dX4_count_59 : decode cX4_count 59 = .ok (.iload_n 1, 1) := by decide +kernel
theorem dX4_count_60 : decode cX4_count 60 = .ok (.iconst 2, 1) := by decide +kernel
theorem dX4_count_61 : decode cX4_count 61 = .ok (.if_icmp .ne 7, 3) := by decide +kernel
theorem dX4_count_64 : decode cX4_count 64 = .ok (.iload_n 2, 1) := by decide +kernel
theorem dX4_count_65 : decode cX4_count 65 = .ok (.goto 4, 3) := by decide +kernel
theorem dX4_count_68 : decode cX4_count 68 = .ok (.iconst (-1), 1) := by decide +kernel
theorem dX4_count_69 : decode cX4_count 69 = .ok (.ireturn, 1) := by decide +kernel
theorem dX4_trace_0 : decode cX4_trace 0 = .ok (.aload_n 0, 1) := by decide +kernel
theorem dX4_trace_1 : decode cX4_trace 1 = .ok (.iconst 0, 1) := by decide +kernel
theorem dX4_trace_2 : decode cX4_trace 2 = .ok (.putfield 32, 3) := by decide +kernel
theorem dX4_trace_5 : decode cX4_trace 5 = .ok (.aload_n 0, 1) := by decide +kernel
theorem dX4_trace_6 : decode cX4_trace 6 = .ok (.getfield 88, 3) := by decide +kernel
theorem dX4_trace_9 : decode cX4_trace 9 = .ok (.lreturn, 1) := by decide +kernel
theorem dJ6_bitCount_0f7a4_0 : decode cJ6_bitCount_0f7a4 0 = .ok (.iload_n 0, 1) := by decide +kernel
theorem dJ6_bitCount_0f7a4_1 : decode cJ6_bitCount_0f7a4 1 = .ok (.iload_n 0, 1) := by decide +kernel
theorem dJ6_bitCount_0f7a4_2 : decode cJ6_bitCount_0f7a4 2 = .ok (.iconst 1, 1) := by decide +kernel
theorem dJ6_bitCount_0f7a4_3 : decode cJ6_bitCount_0f7a4 3 = .ok (.iushr, 1) := by decide +kernel
theorem dJ6_bitCount_0f7a4_4 : decode cJ6_bitCount_0f7a4 4 = .ok (.ldc_w 265, 3) := by decide +kernel
theorem dJ6_bitCount_0f7a4_7 : decode cJ6_bitCount_0f7a4 7 = .ok (.iand, 1) := by decide +kernel
theorem dJ6_bitCount_0f7a4_8 : decode cJ6_bitCount_0f7a4 8 = .ok (.isub, 1) := by decide +kernel
theorem dJ6_bitCount_0f7a4_9 : decode cJ6_bitCount_0f7a4 9 = .ok (.istore_n 0, 1) := by decide +kernel
theorem dJ6_bitCount_0f7a4_10 : decode cJ6_bitCount_0f7a4 10 = .ok (.iload_n 0, 1) := by decide +kernel
theorem dJ6_bitCount_0f7a4_11 : decode cJ6_bitCount_0f7a4 11 = .ok (.ldc_w 266, 3) := by decide +kernel
theorem dJ6_bitCount_0f7a4_14 : decode cJ6_bitCount_0f7a4 14 = .ok (.iand, 1) := by decide +kernel
theorem dJ6_bitCount_0f7a4_15 : decode cJ6_bitCount_0f7a4 15 = .ok (.iload_n 0, 1) := by decide +kernel
theorem dJ6_bitCount_0f7a4_16 : decode cJ6_bitCount_0f7a4 16 = .ok (.iconst 2, 1) := by decide +kernel
theorem dJ6_bitCount_0f7a4_17 : decode cJ6_bitCount_0f7a4 17 = .ok (.iushr, 1) := by decide +kernel
theorem dJ6_bitCount_0f7a4_18 : decode cJ6_bitCount_0f7a4 18 = .ok (.ldc_w 266, 3) := by decide +kernel
theorem dJ6_bitCount_0f7a4_21 : decode cJ6_bitCount_0f7a4 21 = .ok (.iand, 1) := by decide +kernel
theorem dJ6_bitCount_0f7a4_22 : decode cJ6_bitCount_0f7a4 22 = .ok (.iadd, 1) := by decide +kernel
theorem dJ6_bitCount_0f7a4_23 : decode cJ6_bitCount_0f7a4 23 = .ok (.istore_n 0, 1) := by decide +kernel
theorem dJ6_bitCount_0f7a4_24 : decode cJ6_bitCount_0f7a4 24 = .ok (.iload_n 0, 1) := by decide +kernel
theorem dJ6_bitCount_0f7a4_25 : decode cJ6_bitCount_0f7a4 25 = .ok (.iload_n 0, 1) := by decide +kernel
theorem dJ6_bitCount_0f7a4_26 : decode cJ6_bitCount_0f7a4 26 = .ok (.iconst 4, 1) := by decide +kernel
theorem dJ6_bitCount_0f7a4_27 : decode cJ6_bitCount_0f7a4 27 = .ok (.iushr, 1) := by decide +kernel
theorem dJ6_bitCount_0f7a4_28 : decode cJ6_bitCount_0f7a4 28 = .ok (.iadd, 1) := by decide +kernel
theorem dJ6_bitCount_0f7a4_29 : decode cJ6_bitCount_0f7a4 29 = .ok (.ldc_w 267, 3) := by decide +kernel
theorem dJ6_bitCount_0f7a4_32 : decode cJ6_bitCount_0f7a4 32 = .ok (.iand, 1) := by decide +kernel
theorem dJ6_bitCount_0f7a4_33 : decode cJ6_bitCount_0f7a4 33 = .ok (.istore_n 0, 1) := by decide +kernel
theorem dJ6_bitCount_0f7a4_34 : decode cJ6_bitCount_0f7a4 34 = .ok (.iload_n 0, 1) := by decide +kernel
theorem dJ6_bitCount_0f7a4_35 : decode cJ6_bitCount_0f7a4 35 = .ok (.iload_n 0, 1) := by decide +kernel
theorem dJ6_bitCount_0f7a4_36 : decode cJ6_bitCount_0f7a4 36 = .ok (.bipush 8, 2) := by decide +kernel
theorem dJ6_bitCount_0f7a4_38 : decode cJ6_bitCount_0f7a4 38 = .ok (.iushr, 1) := by decide +kernel
