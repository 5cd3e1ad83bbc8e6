theorem dX3_fails_28 : decode cX3_fails 28 = .ok (.getfield 42, 3) := by decide +kernel
theorem dX3_fails_31 : decode cX3_fails 31 = .ok (.iconst 2, 1) := by decide +kernel
theorem dX3_fails_32 : decode cX3_fails 32 = .ok (.isub, 1) := by decide +kernel
theorem dX3_fails_33 : decode cX3_fails 33 = .ok (.if_icmp .gt 71, 3) := by decide +kernel
theorem dX3_fails_36 : decode cX3_fails 36 = .ok (.iconst 0, 1) := by decide +kernel
theorem dX3_fails_37 : decode cX3_fails 37 = .ok (.istore 4, 2) := by decide +kernel
theorem dX3_fails_39 : decode cX3_fails 39 = .ok (.iload 4, 2) := by decide +kernel
theorem dX3_fails_41 : decode cX3_fails 41 = .ok (.aload_n 0, 1) := by decide +kernel
theorem dX3_fails_42 : decode cX3_fails 42 = .ok (.getfield 42, 3) := by decide +kernel
theorem dX3_fails_45 : decode cX3_fails 45 = .ok (.if_icmp .ge 34, 3) := by decide +kernel
theorem dX3_fails_48 : decode cX3_fails 48 = .ok (.aload_n 0, 1) := by decide +kernel
theorem dX3_fails_49 : decode cX3_fails 49 = .ok (.getfield 20, 3) := by decide +kernel
theorem dX3_fails_52 : decode cX3_fails 52 = .ok (.iload 4, 2) := by decide +kernel
theorem dX3_fails_54 : decode cX3_fails 54 = .ok (.aload_n 0, 1) := by decide +kernel
theorem dX3_fails_55 : decode cX3_fails 55 = .ok (.getfield 49, 3) := by decide +kernel
theorem dX3_fails_58 : decode cX3_fails 58 = .ok (.aload_n 0, 1) := by decide +kernel
theorem dX3_fails_59 : decode cX3_fails 59 = .ok (.getfield 20, 3) := by decide +kernel
theorem dX3_fails_62 : decode cX3_fails 62 = .ok (.iload 4, 2) := by decide +kernel
theorem dX3_fails_64 : decode cX3_fails 64 = .ok (.iaload, 1) := by decide +kernel
theorem dX3_fails_65 : decode cX3_fails 65 = .ok (.aload_n 2, 1) := by decide +kernel
theorem dX3_fails_66 : decode cX3_fails 66 = .ok (.iload 4, 2) := by decide +kernel
theorem dX3_fails_68 : decode cX3_fails 68 = .ok (.iaload, 1) := by decide +kernel
theorem dX3_fails_69 : decode cX3_fails 69 = .ok (.invokevirtual 57, 3) := by decide +kernel
theorem dX3_fails_72 : decode cX3_fails 72 = .ok (.iastore, 1) := by decide +kernel
theorem dX3_fails_73 : decode cX3_fails 73 = .ok (.iinc 4 1, 3) := by decide +kernel
theorem dX3_fails_76 : decode cX3_fails 76 = .ok (.goto (-37), 3) := by decide +kernel
theorem dX3_fails_79 : decode cX3_fails 79 = .ok (.aload_n 0, 1) := by decide +kernel
theorem dX3_fails_80 : decode cX3_fails 80 = .ok (.aload_n 0, 1) := by decide +kernel
theorem dX3_fails_81 : decode cX3_fails 81 = .ok (.getfield 20, 3) := by decide +kernel
theorem dX3_fails_84 : decode cX3_fails 84 = .ok (.aload_n 0, 1) := by decide +kernel
theorem dX3_fails_85 : decode cX3_fails 85 = .ok (.getfield 42, 3) := by decide +kernel
theorem dX3_fails_88 : decode cX3_fails 88 = .ok (.iconst 1, 1) := by decide +kernel
theorem dX3_fails_89 : decode cX3_fails 89 = .ok (.isub, 1) := by decide +kernel
theorem dX3_fails_90 : decode cX3_fails 90 = .ok (.invokevirtual 67, 3) := by decide +kernel
theorem dX3_fails_93 : decode cX3_fails 93 = .ok (.ifCond .eq 5, 3) := by decide +kernel
theorem dX3_fails_96 : decode cX3_fails 96 = .ok (.iload_n 3, 1) := by decide +kernel
theorem dX3_fails_97 : decode cX3_fails 97 = .ok (.ireturn, 1) := by decide +kernel
theorem dX3_fails_98 : decode cX3_fails 98 = .ok (.iinc 3 1, 3) := by decide +kernel
theorem dX3_fails_101 : decode cX3_fails 101 = .ok (.goto (-75), 3) := by decide +kernel
theorem dX3_fails_104 : decode cX3_fails 104 = .ok (.aload_n 0, 1) := by decide +kernel
theorem dX3_fails_105 : decode cX3_fails 105 = .ok (.aload_n 2, 1) := by decide +kernel
theorem dX3_fails_106 : decode cX3_fails 106 = .ok (.iconst 0, 1) := by decide +kernel
theorem dX3_fails_107 : decode cX3_fails 107 = .ok (.invokevirtual 112, 3) := by decide +kernel
theorem dX3_fails_110 : decode cX3_fails 110 = .ok (.iconst 1, 1) := by decide +kernel
theorem dX3_fails_111 : decode cX3_fails 111 = .ok (.if_icmp .ne 7, 3) := by decide +kernel
theorem dX3_fails_114 : decode cX3_fails 114 = .ok (.iconst 0, 1) := by decide +kernel
theorem dX3_fails_115 : decode cX3_fails 115 = .ok (.goto 9, 3) := by decide +kernel
theorem dX3_fails_118 : decode cX3_fails 118 = .ok (.aload_n 0, 1) := by decide +kernel
theorem dX3_fails_119 : decode cX3_fails 119 = .ok (.getfield 42, 3) := by decide +kernel
theorem dX3_fails_122 : decode cX3_fails 122 = .ok (.iconst 1, 1) := by decide +kernel
theorem dX3_fails_123 : decode cX3_fails 123 = .ok (.isub, 1) := by decide +kernel
theorem dX3_fails_124 : decode cX3_fails 124 = .ok (.ireturn, 1) := by decide +kernel
theorem dX3_image_0 : decode cX3_image 0 = .ok (.iload_n 1, 1) := by decide +kernel
theorem dX3_image_1 : decode cX3_image 1 = .ok (.invokestatic 64, 3) := by decide +kernel
theorem dX3_image_4 : decode cX3_image 4 = .ok (.ifCond .ne 5, 3) := by decide +kernel
theorem dX3_image_7 : decode cX3_image 7 = .ok (.iconst (-1), 1) := by decide +kernel
theorem dX3_image_8 : decode cX3_image 8 = .ok (.ireturn, 1) := by decide +kernel
theorem dX3_image_9 : decode cX3_image 9 = .ok (.aload_n 0, 1) := by decide +kernel
theorem dX3_image_10 : decode cX3_image 10 = .ok (.aload_n 0, 1) := by decide +kernel
theorem dX3_image_11 : decode cX3_image 11 = .ok (.getfield 17, 3) := by decide +kernel
theorem dX3_image_14 : decode cX3_image 14 = .ok (.iload_n 1, 1) := by decide +kernel
theorem dX3_image_15 : decode cX3_image 15 = .ok (.aaload, 1) := by decide +kernel
theorem dX3_image_16 : decode cX3_image 16 = .ok (.invokevirtual 115, 3) := by decide +kernel
theorem dX3_image_19 : decode cX3_image 19 = .ok (.ireturn, 1) := by decide +kernel
theorem dX3_turn_0 : decode cX3_turn 0 = .ok (.iload_n 1, 1) := by decide +kernel
theorem dX3_turn_1 : decode cX3_turn 1 = .ok (.invokestatic 64, 3) := by decide +kernel
theorem dX3_turn_4 : decode cX3_turn 4 = .ok (.ifCond .ne 5, 3) := by decide +kernel
theorem dX3_turn_7 : decode cX3_turn 7 = .ok (.iconst (-1), 1) := by decide +kernel
theorem dX3_turn_8 : decode cX3_turn 8 = .ok (.ireturn, 1) := by decide +kernel
theorem dX3_turn_9 : decode cX3_turn 9 = .ok (.aload_n 0, 1) := by decide +kernel
theorem dX3_turn_10 : decode cX3_turn 10 = .ok (.aload_n 0, 1) := by decide +kernel
theorem dX3_turn_11 : decode cX3_turn 11 = .ok (.getfield 17, 3) := by decide +kernel
theorem dX3_turn_14 : decode cX3_turn 14 = .ok (.iload_n 1, 1) := by decide +kernel
theorem dX3_turn_15 : decode cX3_turn 15 = .ok (.aaload, 1) := by decide +kernel
theorem dX3_turn_16 : decode cX3_turn 16 = .ok (.invokevirtual 98, 3) := by decide +kernel
theorem dX3_turn_19 : decode cX3_turn 19 = .ok (.ifCond .ne 6, 3) := by decide +kernel
theorem dX3_turn_22 : decode cX3_turn 22 = .ok (.bipush (-2), 2) := by decide +kernel
theorem dX3_turn_24 : decode cX3_turn 24 = .ok (.ireturn, 1) := by decide +kernel
theorem dX3_turn_25 : decode cX3_turn 25 = .ok (.iconst 0, 1) := by decide +kernel
theorem dX3_turn_26 : decode cX3_turn 26 = .ok (.istore_n 2, 1) := by decide +kernel
theorem dX3_turn_27 : decode cX3_turn 27 = .ok (.iload_n 2, 1) := by decide +kernel
theorem dX3_turn_28 : decode cX3_turn 28 = .ok (.aload_n 0, 1) := by decide +kernel
theorem dX3_turn_29 : decode cX3_turn 29 = .ok (.getfield 42, 3) := by decide +kernel
theorem dX3_turn_32 : decode cX3_turn 32 = .ok (.if_icmp .ge 23, 3) := by decide +kernel
theorem dX3_turn_35 : decode cX3_turn 35 = .ok (.aload_n 0, 1) := by decide +kernel
theorem dX3_turn_36 : decode cX3_turn 36 = .ok (.getfield 20, 3) := by decide +kernel
theorem dX3_turn_39 : decode cX3_turn 39 = .ok (.aload_n 0, 1) := by decide +kernel
theorem dX3_turn_40 : decode cX3_turn 40 = .ok (.getfield 17, 3) := by decide +kernel
theorem dX3_turn_43 : decode cX3_turn 43 = .ok (.iload_n 1, 1) := by decide +kernel
theorem dX3_turn_44 : decode cX3_turn 44 = .ok (.aaload, 1) := by decide +kernel
theorem dX3_turn_45 : decode cX3_turn 45 = .ok (.iload_n 2, 1) := by decide +kernel
theorem dX3_turn_46 : decode cX3_turn 46 = .ok (.iaload, 1) := by decide +kernel
theorem dX3_turn_47 : decode cX3_turn 47 = .ok (.iload_n 2, 1) := by decide +kernel
theorem dX3_turn_48 : decode cX3_turn 48 = .ok (.iastore, 1) := by decide +kernel
theorem dX3_turn_49 : decode cX3_turn 49 = .ok (.iinc 2 1, 3) := by decide +kernel
theorem dX3_turn_52 : decode cX3_turn 52 = .ok (.goto (-25), 3) := by decide +kernel
theorem dX3_turn_55 : decode cX3_turn 55 = .ok (.aload_n 0, 1) := by decide +kernel
theorem dX3_turn_56 : decode cX3_turn 56 = .ok (.iload_n 1, 1) := by decide +kernel
theorem dX3_turn_57 : decode cX3_turn 57 = .ok (.invokevirtual 95, 3) := by decide +kernel
theorem dX3_turn_60 : decode cX3_turn 60 = .ok (.iconst 1, 1) := by decide +kernel
theorem dX3_turn_61 : decode cX3_turn 61 = .ok (.ireturn, 1) := by decide +kernel
theorem dX3_order_0 : decode cX3_order 0 = .ok (.iload_n 1, 1) := by decide +kernel
theorem dX3_order_1 : decode cX3_order 1 = .ok (.invokestatic 64, 3) := by decide +kernel
theorem dX3_order_4 : decode cX3_order 4 = .ok (.ifCond .ne 5, 3) := by decide +kernel
theorem dX3_order_7 : decode cX3_order 7 = .ok (.iconst (-1), 1) := by decide +kernel
theorem dX3_order_8 : decode cX3_order 8 = .ok (.ireturn, 1) := by decide +kernel
theorem dX3_order_9 : decode cX3_order 9 = .ok (.aload_n 0, 1) := by decide +kernel
theorem dX3_order_10 : decode cX3_order 10 = .ok (.aload_n 0, 1) := by decide +kernel
theorem dX3_order_11 : decode cX3_order 11 = .ok (.getfield 17, 3) := by decide +kernel
theorem dX3_order_14 : decode cX3_order 14 = .ok (.iload_n 1, 1) := by decide +kernel
theorem dX3_order_15 : decode cX3_order 15 = .ok (.aaload, 1) := by decide +kernel
theorem dX3_order_16 : decode cX3_order 16 = .ok (.invokevirtual 98, 3) := by decide +kernel
theorem dX3_order_19 : decode cX3_order 19 = .ok (.ifCond .ne 6, 3) := by decide +kernel
theorem dX3_order_22 : decode cX3_order 22 = .ok (.bipush (-2), 2) := by decide +kernel
theorem dX3_order_24 : decode cX3_order 24 = .ok (.ireturn, 1) := by decide +kernel
theorem dX3_order_25 : decode cX3_order 25 = .ok (.iconst 1, 1) := by decide +kernel
theorem dX3_order_26 : decode cX3_order 26 = .ok (.istore_n 2, 1) := by decide +kernel
theorem dX3_order_27 : decode cX3_order 27 = .ok (.iconst 0, 1) := by decide +kernel
theorem dX3_order_28 : decode cX3_order 28 = .ok (.istore_n 3, 1) := by decide +kernel
theorem dX3_order_29 : decode cX3_order 29 = .ok (.iload_n 3, 1) := by decide +kernel
theorem dX3_order_30 : decode cX3_order 30 = .ok (.aload_n 0, 1) := by decide +kernel
theorem dX3_order_31 : decode cX3_order 31 = .ok (.getfield 42, 3) := by decide +kernel
theorem dX3_order_34 : decode cX3_order 34 = .ok (.if_icmp .ge 25, 3) := by decide +kernel
theorem dX3_order_37 : decode cX3_order 37 = .ok (.iload_n 2, 1) := by decide +kernel
theorem dX3_order_38 : decode cX3_order 38 = .ok (.aload_n 0, 1) := by decide +kernel
theorem dX3_order_39 : decode cX3_order 39 = .ok (.aload_n 0, 1) := by decide +kernel
theorem dX3_order_40 : decode cX3_order 40 = .ok (.getfield 17, 3) := by decide +kernel
theorem dX3_order_43 : decode cX3_order 43 = .ok (.iload_n 1, 1) := by decide +kernel
theorem dX3_order_44 : decode cX3_order 44 = .ok (.aaload, 1) := by decide +kernel
theorem dX3_order_45 : decode cX3_order 45 = .ok (.iload_n 3, 1) := by decide +kernel
theorem dX3_order_46 : decode cX3_order 46 = .ok (.invokevirtual 119, 3) := by decide +kernel
theorem dX3_order_49 : decode cX3_order 49 = .ok (.invokestatic 122, 3) := by decide +kernel
theorem dX3_order_52 : decode cX3_order 52 = .ok (.istore_n 2, 1) := by decide +kernel
theorem dX3_order_53 : decode cX3_order 53 = .ok (.iinc 3 1, 3) := by decide +kernel
theorem dX3_order_56 : decode cX3_order 56 = .ok (.goto (-27), 3) := by decide +kernel
theorem dX3_order_59 : decode cX3_order 59 = .ok (.iload_n 2, 1) := by decide +kernel
theorem dX3_order_60 : decode cX3_order 60 = .ok (.ireturn, 1) := by decide +kernel
theorem dX3_fixed_0 : decode cX3_fixed 0 = .ok (.iload_n 1, 1) := by decide +kernel
theorem dX3_fixed_1 : decode cX3_fixed 1 = .ok (.invokestatic 64, 3) := by decide +kernel
theorem dX3_fixed_4 : decode cX3_fixed 4 = .ok (.ifCond .ne 5, 3) := by decide +kernel
theorem dX3_fixed_7 : decode cX3_fixed 7 = .ok (.iconst (-1), 1) := by decide +kernel
theorem dX3_fixed_8 : decode cX3_fixed 8 = .ok (.ireturn, 1) := by decide +kernel
theorem dX3_fixed_9 : decode cX3_fixed 9 = .ok (.iconst 0, 1) := by decide +kernel
theorem dX3_fixed_10 : decode cX3_fixed 10 = .ok (.istore_n 2, 1) := by decide +kernel
theorem dX3_fixed_11 : decode cX3_fixed 11 = .ok (.iconst 0, 1) := by decide +kernel
theorem dX3_fixed_12 : decode cX3_fixed 12 = .ok (.istore_n 3, 1) := by decide +kernel
theorem dX3_fixed_13 : decode cX3_fixed 13 = .ok (.iload_n 3, 1) := by decide +kernel
theorem dX3_fixed_14 : decode cX3_fixed 14 = .ok (.aload_n 0, 1) := by decide +kernel
theorem dX3_fixed_15 : decode cX3_fixed 15 = .ok (.getfield 42, 3) := by decide +kernel
theorem dX3_fixed_18 : decode cX3_fixed 18 = .ok (.if_icmp .ge 32, 3) := by decide +kernel
theorem dX3_fixed_21 : decode cX3_fixed 21 = .ok (.iload_n 2, 1) := by decide +kernel
theorem dX3_fixed_22 : decode cX3_fixed 22 = .ok (.aload_n 0, 1) := by decide +kernel
theorem dX3_fixed_23 : decode cX3_fixed 23 = .ok (.getfield 17, 3) := by decide +kernel
theorem dX3_fixed_26 : decode cX3_fixed 26 = .ok (.iload_n 1, 1) := by decide +kernel
theorem dX3_fixed_27 : decode cX3_fixed 27 = .ok (.aaload, 1) := by decide +kernel
theorem dX3_fixed_28 : decode cX3_fixed 28 = .ok (.iload_n 3, 1) := by decide +kernel
theorem dX3_fixed_29 : decode cX3_fixed 29 = .ok (.iaload, 1) := by decide +kernel
theorem dX3_fixed_30 : decode cX3_fixed 30 = .ok (.iload_n 3, 1) := by decide +kernel
theorem dX3_fixed_31 : decode cX3_fixed 31 = .ok (.if_icmp .ne 7, 3) := by decide +kernel
theorem dX3_fixed_34 : decode cX3_fixed 34 = .ok (.iconst 1, 1) := by decide +kernel
theorem dX3_fixed_35 : decode cX3_fixed 35 = .ok (.goto 4, 3) := by decide +kernel
theorem dX3_fixed_38 : decode cX3_fixed 38 = .ok (.iconst 0, 1) := by decide +kernel
theorem dX3_fixed_39 : decode cX3_fixed 39 = .ok (.invokestatic 102, 3) := by decide +kernel
theorem dX3_fixed_42 : decode cX3_fixed 42 = .ok (.iadd, 1) := by decide +kernel
theorem dX3_fixed_43 : decode cX3_fixed 43 = .ok (.istore_n 2, 1) := by decide +kernel
theorem dX3_fixed_44 : decode cX3_fixed 44 = .ok (.iinc 3 1, 3) := by decide +kernel
theorem dX3_fixed_47 : decode cX3_fixed 47 = .ok (.goto (-34), 3) := by decide +kernel
theorem dX3_fixed_50 : decode cX3_fixed 50 = .ok (.iload_n 2, 1) := by decide +kernel
theorem dX3_fixed_51 : decode cX3_fixed 51 = .ok (.ireturn, 1) := by decide +kernel
theorem dX3_difference_0 : decode cX3_difference 0 = .ok (.iload_n 1, 1) := by decide +kernel
theorem dX3_difference_1 : decode cX3_difference 1 = .ok (.invokestatic 64, 3) := by decide +kernel
theorem dX3_difference_4 : decode cX3_difference 4 = .ok (.ifCond .eq 23, 3) := by decide +kernel
theorem dX3_difference_7 : decode cX3_difference 7 = .ok (.aload_n 0, 1) := by decide +kernel
theorem dX3_difference_8 : decode cX3_difference 8 = .ok (.iload_n 2, 1) := by decide +kernel
theorem dX3_difference_9 : decode cX3_difference 9 = .ok (.invokevirtual 46, 3) := by decide +kernel
theorem dX3_difference_12 : decode cX3_difference 12 = .ok (.ifCond .eq 15, 3) := by decide +kernel
theorem dX3_difference_15 : decode cX3_difference 15 = .ok (.iload_n 2, 1) := by decide +kernel
theorem dX3_difference_16 : decode cX3_difference 16 = .ok (.ifCond .eq 11, 3) := by decide +kernel
theorem dX3_difference_19 : decode cX3_difference 19 = .ok (.aload_n 0, 1) := by decide +kernel
theorem dX3_difference_20 : decode cX3_difference 20 = .ok (.iload_n 3, 1) := by decide +kernel
theorem dX3_difference_21 : decode cX3_difference 21 = .ok (.invokevirtual 46, 3) := by decide +kernel
theorem dX3_difference_24 : decode cX3_difference 24 = .ok (.ifCond .ne 5, 3) := by decide +kernel
theorem dX3_difference_27 : decode cX3_difference 27 = .ok (.iconst (-1), 1) := by decide +kernel
theorem dX3_difference_28 : decode cX3_difference 28 = .ok (.ireturn, 1) := by decide +kernel
theorem dX3_difference_29 : decode cX3_difference 29 = .ok (.iconst 0, 1) := by decide +kernel
theorem dX3_difference_30 : decode cX3_difference 30 = .ok (.istore 4, 2) := by decide +kernel
theorem dX3_difference_32 : decode cX3_difference 32 = .ok (.iconst 0, 1) := by decide +kernel
theorem dX3_difference_33 : decode cX3_difference 33 = .ok (.istore 5, 2) := by decide +kernel
theorem dX3_difference_35 : decode cX3_difference 35 = .ok (.iload 5, 2) := by decide +kernel
theorem dX3_difference_37 : decode cX3_difference 37 = .ok (.aload_n 0, 1) := by decide +kernel
theorem dX3_difference_38 : decode cX3_difference 38 = .ok (.getfield 42, 3) := by decide +kernel
theorem dX3_difference_41 : decode cX3_difference 41 = .ok (.if_icmp .ge 39, 3) := by decide +kernel
theorem dX3_difference_44 : decode cX3_difference 44 = .ok (.iload 4, 2) := by decide +kernel
theorem dX3_difference_46 : decode cX3_difference 46 = .ok (.aload_n 0, 1) := by decide +kernel
theorem dX3_difference_47 : decode cX3_difference 47 = .ok (.aload_n 0, 1) := by decide +kernel
theorem dX3_difference_48 : decode cX3_difference 48 = .ok (.getfield 17, 3) := by decide +kernel
theorem dX3_difference_51 : decode cX3_difference 51 = .ok (.iload_n 1, 1) := by decide +kernel
theorem dX3_difference_52 : decode cX3_difference 52 = .ok (.aaload, 1) := by decide +kernel
theorem dX3_difference_53 : decode cX3_difference 53 = .ok (.iload_n 2, 1) := by decide +kernel
theorem dX3_difference_54 : decode cX3_difference 54 = .ok (.iload 5, 2) := by decide +kernel
theorem dX3_difference_56 : decode cX3_difference 56 = .ok (.invokevirtual 125, 3) := by decide +kernel
theorem dX3_difference_59 : decode cX3_difference 59 = .ok (.iload_n 3, 1) := by decide +kernel
theorem dX3_difference_60 : decode cX3_difference 60 = .ok (.if_icmp .ne 7, 3) := by decide +kernel
theorem dX3_difference_63 : decode cX3_difference 63 = .ok (.iconst 1, 1) := by decide +kernel
theorem dX3_difference_64 : decode cX3_difference 64 = .ok (.goto 4, 3) := by decide +kernel
theorem dX3_difference_67 : decode cX3_difference 67 = .ok (.iconst 0, 1) := by decide +kernel
theorem dX3_difference_68 : decode cX3_difference 68 = .ok (.invokestatic 102, 3) := by decide +kernel
theorem dX3_difference_71 : decode cX3_difference 71 = .ok (.iadd, 1) := by decide +kernel
theorem dX3_difference_72 : decode cX3_difference 72 = .ok (.istore 4, 2) := by decide +kernel
theorem dX3_difference_74 : decode cX3_difference 74 = .ok (.iinc 5 1, 3) := by decide +kernel
theorem dX3_difference_77 : decode cX3_difference 77 = .ok (.goto (-42), 3) := by decide +kernel
theorem dX3_difference_80 : decode cX3_difference 80 = .ok (.iload 4, 2) := by decide +kernel
theorem dX3_difference_82 : decode cX3_difference 82 = .ok (.ireturn, 1) := by decide +kernel
theorem dX3_spread_0 : decode cX3_spread 0 = .ok (.iload_n 1, 1) := by decide +kernel
theorem dX3_spread_1 : decode cX3_spread 1 = .ok (.invokestatic 64, 3) := by decide +kernel
theorem dX3_spread_4 : decode cX3_spread 4 = .ok (.ifCond .ne 5, 3) := by decide +kernel
theorem dX3_spread_7 : decode cX3_spread 7 = .ok (.iconst (-1), 1) := by decide +kernel
theorem dX3_spread_8 : decode cX3_spread 8 = .ok (.ireturn, 1) := by decide +kernel
theorem dX3_spread_9 : decode cX3_spread 9 = .ok (.aload_n 0, 1) := by decide +kernel
theorem dX3_spread_10 : decode cX3_spread 10 = .ok (.aload_n 0, 1) := by decide +kernel
theorem dX3_spread_11 : decode cX3_spread 11 = .ok (.getfield 17, 3) := by decide +kernel
theorem dX3_spread_14 : decode cX3_spread 14 = .ok (.iload_n 1, 1) := by decide +kernel
theorem dX3_spread_15 : decode cX3_spread 15 = .ok (.aaload, 1) := by decide +kernel
theorem dX3_spread_16 : decode cX3_spread 16 = .ok (.invokevirtual 129, 3) := by decide +kernel
theorem dX3_spread_19 : decode cX3_spread 19 = .ok (.ireturn, 1) := by decide +kernel
theorem dX3_planar_0 : decode cX3_planar 0 = .ok (.iload_n 1, 1) := by decide +kernel
theorem dX3_planar_1 : decode cX3_planar 1 = .ok (.invokestatic 64, 3) := by decide +kernel
theorem dX3_planar_4 : decode cX3_planar 4 = .ok (.ifCond .ne 5, 3) := by decide +kernel
theorem dX3_planar_7 : decode cX3_planar 7 = .ok (.iconst (-1), 1) := by decide +kernel
theorem dX3_planar_8 : decode cX3_planar 8 = .ok (.ireturn, 1) := by decide +kernel
theorem dX3_planar_9 : decode cX3_planar 9 = .ok (.aload_n 0, 1) := by decide +kernel
theorem dX3_planar_10 : decode cX3_planar 10 = .ok (.aload_n 0, 1) := by decide +kernel
theorem dX3_planar_11 : decode cX3_planar 11 = .ok (.getfield 17, 3) := by decide +kernel
theorem dX3_planar_14 : decode cX3_planar 14 = .ok (.iload_n 1, 1) := by decide +kernel
theorem dX3_planar_15 : decode cX3_planar 15 = .ok (.aaload, 1) := by decide +kernel
theorem dX3_planar_16 : decode cX3_planar 16 = .ok (.invokevirtual 129, 3) := by decide +kernel
theorem dX3_planar_19 : decode cX3_planar 19 = .ok (.iconst 1, 1) := by decide +kernel
theorem dX3_planar_20 : decode cX3_planar 20 = .ok (.if_icmp .ne 7, 3) := by decide +kernel
theorem dX3_planar_23 : decode cX3_planar 23 = .ok (.iconst 1, 1) := by decide +kernel
theorem dX3_planar_24 : decode cX3_planar 24 = .ok (.goto 4, 3) := by decide +kernel
theorem dX3_planar_27 : decode cX3_planar 27 = .ok (.iconst 0, 1) := by decide +kernel
theorem dX3_planar_28 : decode cX3_planar 28 = .ok (.invokestatic 102, 3) := by decide +kernel
theorem dX3_planar_31 : decode cX3_planar 31 = .ok (.ireturn, 1) := by decide +kernel
theorem dX3_walk_0 : decode cX3_walk 0 = .ok (.iload_n 1, 1) := by decide +kernel
theorem dX3_walk_1 : decode cX3_walk 1 = .ok (.invokestatic 64, 3) := by decide +kernel
theorem dX3_walk_4 : decode cX3_walk 4 = .ok (.ifCond .eq 26, 3) := by decide +kernel
theorem dX3_walk_7 : decode cX3_walk 7 = .ok (.aload_n 0, 1) := by decide +kernel
theorem dX3_walk_8 : decode cX3_walk 8 = .ok (.iload_n 2, 1) := by decide +kernel
theorem dX3_walk_9 : decode cX3_walk 9 = .ok (.invokevirtual 46, 3) := by decide +kernel
theorem dX3_walk_12 : decode cX3_walk 12 = .ok (.ifCond .eq 18, 3) := by decide +kernel
theorem dX3_walk_15 : decode cX3_walk 15 = .ok (.aload_n 0, 1) := by decide +kernel
theorem dX3_walk_16 : decode cX3_walk 16 = .ok (.iload_n 3, 1) := by decide +kernel
theorem dX3_walk_17 : decode cX3_walk 17 = .ok (.invokevirtual 46, 3) := by decide +kernel
theorem dX3_walk_20 : decode cX3_walk 20 = .ok (.ifCond .eq 10, 3) := by decide +kernel
theorem dX3_walk_23 : decode cX3_walk 23 = .ok (.aload_n 0, 1) := by decide +kernel
theorem dX3_walk_24 : decode cX3_walk 24 = .ok (.invokevirtual 132, 3) := by decide +kernel
theorem dX3_walk_27 : decode cX3_walk 27 = .ok (.ifCond .ne 6, 3) := by decide +kernel
theorem dX3_walk_30 : decode cX3_walk 30 = .ok (.ldc 136, 2) := by decide +kernel
theorem dX3_walk_32 : decode cX3_walk 32 = .ok (.ireturn, 1) := by decide +kernel
theorem dX3_walk_33 : decode cX3_walk 33 = .ok (.aload_n 0, 1) := by decide +kernel
theorem dX3_walk_34 : decode cX3_walk 34 = .ok (.aload_n 0, 1) := by decide +kernel
theorem dX3_walk_35 : decode cX3_walk 35 = .ok (.getfield 17, 3) := by decide +kernel
theorem dX3_walk_38 : decode cX3_walk 38 = .ok (.iload_n 1, 1) := by decide +kernel
theorem dX3_walk_39 : decode cX3_walk 39 = .ok (.aaload, 1) := by decide +kernel
theorem dX3_walk_40 : decode cX3_walk 40 = .ok (.iload_n 2, 1) := by decide +kernel
theorem dX3_walk_41 : decode cX3_walk 41 = .ok (.iload_n 3, 1) := by decide +kernel
theorem dX3_walk_42 : decode cX3_walk 42 = .ok (.invokevirtual 137, 3) := by decide +kernel
theorem dX3_walk_45 : decode cX3_walk 45 = .ok (.ireturn, 1) := by decide +kernel
theorem dX3_linear_0 : decode cX3_linear 0 = .ok (.iload_n 1, 1) := by decide +kernel
theorem dX3_linear_1 : decode cX3_linear 1 = .ok (.invokestatic 64, 3) := by decide +kernel
theorem dX3_linear_4 : decode cX3_linear 4 = .ok (.ifCond .ne 5, 3) := by decide +kernel
theorem dX3_linear_7 : decode cX3_linear 7 = .ok (.iconst (-1), 1) := by decide +kernel
theorem dX3_linear_8 : decode cX3_linear 8 = .ok (.ireturn, 1) := by decide +kernel
theorem dX3_linear_9 : decode cX3_linear 9 = .ok (.aload_n 0, 1) := by decide +kernel
theorem dX3_linear_10 : decode cX3_linear 10 = .ok (.invokevirtual 132, 3) := by decide +kernel
theorem dX3_linear_13 : decode cX3_linear 13 = .ok (.ifCond .ne 6, 3) := by decide +kernel
theorem dX3_linear_16 : decode cX3_linear 16 = .ok (.bipush (-2), 2) := by decide +kernel
theorem dX3_linear_18 : decode cX3_linear 18 = .ok (.ireturn, 1) := by decide +kernel
theorem dX3_linear_19 : decode cX3_linear 19 = .ok (.iconst 0, 1) := by decide +kernel
theorem dX3_linear_20 : decode cX3_linear 20 = .ok (.istore_n 2, 1) := by decide +kernel
theorem dX3_linear_21 : decode cX3_linear 21 = .ok (.iconst 1, 1) := by decide +kernel
theorem dX3_linear_22 : decode cX3_linear 22 = .ok (.istore_n 3, 1) := by decide +kernel
theorem dX3_linear_23 : decode cX3_linear 23 = .ok (.iload_n 3, 1) := by decide +kernel
theorem dX3_linear_24 : decode cX3_linear 24 = .ok (.aload_n 0, 1) := by decide +kernel
theorem dX3_linear_25 : decode cX3_linear 25 = .ok (.getfield 42, 3) := by decide +kernel
theorem dX3_linear_28 : decode cX3_linear 28 = .ok (.if_icmp .ge 48, 3) := by decide +kernel
theorem dX3_linear_31 : decode cX3_linear 31 = .ok (.iconst 0, 1) := by decide +kernel
theorem dX3_linear_32 : decode cX3_linear 32 = .ok (.istore 4, 2) := by decide +kernel
theorem dX3_linear_34 : decode cX3_linear 34 = .ok (.iload 4, 2) := by decide +kernel
theorem dX3_linear_36 : decode cX3_linear 36 = .ok (.aload_n 0, 1) := by decide +kernel
theorem dX3_linear_37 : decode cX3_linear 37 = .ok (.getfield 42, 3) := by decide +kernel
theorem dX3_linear_40 : decode cX3_linear 40 = .ok (.if_icmp .ge 30, 3) := by decide +kernel
theorem dX3_linear_43 : decode cX3_linear 43 = .ok (.iload_n 2, 1) := by decide +kernel
theorem dX3_linear_44 : decode cX3_linear 44 = .ok (.aload_n 0, 1) := by decide +kernel
theorem dX3_linear_45 : decode cX3_linear 45 = .ok (.aload_n 0, 1) := by decide +kernel
theorem dX3_linear_46 : decode cX3_linear 46 = .ok (.getfield 17, 3) := by decide +kernel
theorem dX3_linear_49 : decode cX3_linear 49 = .ok (.iload_n 1, 1) := by decide +kernel
theorem dX3_linear_50 : decode cX3_linear 50 = .ok (.aaload, 1) := by decide +kernel
theorem dX3_linear_51 : decode cX3_linear 51 = .ok (.iload 4, 2) := by decide +kernel
theorem dX3_linear_53 : decode cX3_linear 53 = .ok (.iload_n 3, 1) := by decide +kernel
theorem dX3_linear_54 : decode cX3_linear 54 = .ok (.invokevirtual 137, 3) := by decide +kernel
theorem dX3_linear_57 : decode cX3_linear 57 = .ok (.invokestatic 140, 3) := by decide +kernel
theorem dX3_linear_60 : decode cX3_linear 60 = .ok (.invokestatic 145, 3) := by decide +kernel
theorem dX3_linear_63 : decode cX3_linear 63 = .ok (.istore_n 2, 1) := by decide +kernel
theorem dX3_linear_64 : decode cX3_linear 64 = .ok (.iinc 4 1, 3) := by decide +kernel
theorem dX3_linear_67 : decode cX3_linear 67 = .ok (.goto (-33), 3) := by decide +kernel
theorem dX3_linear_70 : decode cX3_linear 70 = .ok (.iinc 3 1, 3) := by decide +kernel
theorem dX3_linear_73 : decode cX3_linear 73 = .ok (.goto (-50), 3) := by decide +kernel
theorem dX3_linear_76 : decode cX3_linear 76 = .ok (.iload_n 2, 1) := by decide +kernel
theorem dX3_linear_77 : decode cX3_linear 77 = .ok (.ireturn, 1) := by decide +kernel
theorem dX3_like_0 : decode cX3_like 0 = .ok (.iload_n 1, 1) := by decide +kernel
theorem dX3_like_1 : decode cX3_like 1 = .ok (.invokestatic 64, 3) := by decide +kernel
theorem dX3_like_4 : decode cX3_like 4 = .ok (.ifCond .eq 10, 3) := by decide +kernel
theorem dX3_like_7 : decode cX3_like 7 = .ok (.iload_n 2, 1) := by decide +kernel
theorem dX3_like_8 : decode cX3_like 8 = .ok (.invokestatic 64, 3) := by decide +kernel
theorem dX3_like_11 : decode cX3_like 11 = .ok (.ifCond .ne 5, 3) := by decide +kernel
theorem dX3_like_14 : decode cX3_like 14 = .ok (.iconst (-1), 1) := by decide +kernel
theorem dX3_like_15 : decode cX3_like 15 = .ok (.ireturn, 1) := by decide +kernel
theorem dX3_like_16 : decode cX3_like 16 = .ok (.iconst 1, 1) := by decide +kernel
theorem dX3_like_17 : decode cX3_like 17 = .ok (.istore_n 3, 1) := by decide +kernel
theorem dX3_like_18 : decode cX3_like 18 = .ok (.iload_n 3, 1) := by decide +kernel
theorem dX3_like_19 : decode cX3_like 19 = .ok (.aload_n 0, 1) := by decide +kernel
theorem dX3_like_20 : decode cX3_like 20 = .ok (.getfield 42, 3) := by decide +kernel
theorem dX3_like_23 : decode cX3_like 23 = .ok (.if_icmp .ge 71, 3) := by decide +kernel
theorem dX3_like_26 : decode cX3_like 26 = .ok (.iconst 1, 1) := by decide +kernel
theorem dX3_like_27 : decode cX3_like 27 = .ok (.istore 4, 2) := by decide +kernel
theorem dX3_like_29 : decode cX3_like 29 = .ok (.iload 4, 2) := by decide +kernel
theorem dX3_like_31 : decode cX3_like 31 = .ok (.aload_n 0, 1) := by decide +kernel
theorem dX3_like_32 : decode cX3_like 32 = .ok (.getfield 42, 3) := by decide +kernel
theorem dX3_like_35 : decode cX3_like 35 = .ok (.if_icmp .ge 53, 3) := by decide +kernel
theorem dX3_like_38 : decode cX3_like 38 = .ok (.iconst 0, 1) := by decide +kernel
theorem dX3_like_39 : decode cX3_like 39 = .ok (.istore 5, 2) := by decide +kernel
theorem dX3_like_41 : decode cX3_like 41 = .ok (.iload 5, 2) := by decide +kernel
theorem dX3_like_43 : decode cX3_like 43 = .ok (.aload_n 0, 1) := by decide +kernel
theorem dX3_like_44 : decode cX3_like 44 = .ok (.getfield 42, 3) := by decide +kernel
theorem dX3_like_47 : decode cX3_like 47 = .ok (.if_icmp .ge 35, 3) := by decide +kernel
theorem dX3_like_50 : decode cX3_like 50 = .ok (.aload_n 0, 1) := by decide +kernel
theorem dX3_like_51 : decode cX3_like 51 = .ok (.aload_n 0, 1) := by decide +kernel
theorem dX3_like_52 : decode cX3_like 52 = .ok (.getfield 17, 3) := by decide +kernel
theorem dX3_like_55 : decode cX3_like 55 = .ok (.iload_n 1, 1) := by decide +kernel
theorem dX3_like_56 : decode cX3_like 56 = .ok (.aaload, 1) := by decide +kernel
theorem dX3_like_57 : decode cX3_like 57 = .ok (.aload_n 0, 1) := by decide +kernel
theorem dX3_like_58 : decode cX3_like 58 = .ok (.getfield 17, 3) := by decide +kernel
theorem dX3_like_61 : decode cX3_like 61 = .ok (.iload_n 2, 1) := by decide +kernel
theorem dX3_like_62 : decode cX3_like 62 = .ok (.aaload, 1) := by decide +kernel
theorem dX3_like_63 : decode cX3_like 63 = .ok (.iload_n 3, 1) := by decide +kernel
theorem dX3_like_64 : decode cX3_like 64 = .ok (.iload 4, 2) := by decide +kernel
theorem dX3_like_66 : decode cX3_like 66 = .ok (.iload 5, 2) := by decide +kernel
theorem dX3_like_68 : decode cX3_like 68 = .ok (.invokevirtual 148, 3) := by decide +kernel
theorem dX3_like_71 : decode cX3_like 71 = .ok (.ifCond .eq 5, 3) := by decide +kernel
theorem dX3_like_74 : decode cX3_like 74 = .ok (.iconst 1, 1) := by decide +kernel
theorem dX3_like_75 : decode cX3_like 75 = .ok (.ireturn, 1) := by decide +kernel
theorem dX3_like_76 : decode cX3_like 76 = .ok (.iinc 5 1, 3) := by decide +kernel
theorem dX3_like_79 : decode cX3_like 79 = .ok (.goto (-38), 3) := by decide +kernel
theorem dX3_like_82 : decode cX3_like 82 = .ok (.iinc 4 1, 3) := by decide +kernel
theorem dX3_like_85 : decode cX3_like 85 = .ok (.goto (-56), 3) := by decide +kernel
theorem dX3_like_88 : decode cX3_like 88 = .ok (.iinc 3 1, 3) := by decide +kernel
theorem dX3_like_91 : decode cX3_like 91 = .ok (.goto (-73), 3) := by decide +kernel
theorem dX3_like_94 : decode cX3_like 94 = .ok (.iconst 0, 1) := by decide +kernel
theorem dX3_like_95 : decode cX3_like 95 = .ok (.ireturn, 1) := by decide +kernel
theorem dX3_least_0 : decode cX3_least 0 = .ok (.iload_n 1, 1) := by decide +kernel
theorem dX3_least_1 : decode cX3_least 1 = .ok (.invokestatic 64, 3) := by decide +kernel
theorem dX3_least_4 : decode cX3_least 4 = .ok (.ifCond .ne 5, 3) := by decide +kernel
theorem dX3_least_7 : decode cX3_least 7 = .ok (.iconst (-1), 1) := by decide +kernel
theorem dX3_least_8 : decode cX3_least 8 = .ok (.ireturn, 1) := by decide +kernel
theorem dX3_least_9 : decode cX3_least 9 = .ok (.aload_n 0, 1) := by decide +kernel
theorem dX3_least_10 : decode cX3_least 10 = .ok (.getfield 20, 3) := by decide +kernel
theorem dX3_least_13 : decode cX3_least 13 = .ok (.aload_n 0, 1) := by decide +kernel
theorem dX3_least_14 : decode cX3_least 14 = .ok (.getfield 42, 3) := by decide +kernel
theorem dX3_least_17 : decode cX3_least 17 = .ok (.invokestatic 106, 3) := by decide +kernel
theorem dX3_least_20 : decode cX3_least 20 = .ok (.iconst 1, 1) := by decide +kernel
theorem dX3_least_21 : decode cX3_least 21 = .ok (.istore_n 2, 1) := by decide +kernel
theorem dX3_least_22 : decode cX3_least 22 = .ok (.iload_n 2, 1) := by decide +kernel
theorem dX3_least_23 : decode cX3_least 23 = .ok (.aload_n 0, 1) := by decide +kernel
theorem dX3_least_24 : decode cX3_least 24 = .ok (.getfield 42, 3) := by decide +kernel
theorem dX3_least_27 : decode cX3_least 27 = .ok (.if_icmp .ge 57, 3) := by decide +kernel
theorem dX3_least_30 : decode cX3_least 30 = .ok (.iconst 1, 1) := by decide +kernel
theorem dX3_least_31 : decode cX3_least 31 = .ok (.istore_n 3, 1) := by decide +kernel
theorem dX3_least_32 : decode cX3_least 32 = .ok (.iload_n 3, 1) := by decide +kernel
theorem dX3_least_33 : decode cX3_least 33 = .ok (.aload_n 0, 1) := by decide +kernel
theorem dX3_least_34 : decode cX3_least 34 = .ok (.getfield 42, 3) := by decide +kernel
theorem dX3_least_37 : decode cX3_least 37 = .ok (.if_icmp .ge 41, 3) := by decide +kernel
theorem dX3_least_40 : decode cX3_least 40 = .ok (.iconst 0, 1) := by decide +kernel
theorem dX3_least_41 : decode cX3_least 41 = .ok (.istore 4, 2) := by decide +kernel
theorem dX3_least_43 : decode cX3_least 43 = .ok (.iload 4, 2) := by decide +kernel
theorem dX3_least_45 : decode cX3_least 45 = .ok (.aload_n 0, 1) := by decide +kernel
theorem dX3_least_46 : decode cX3_least 46 = .ok (.getfield 42, 3) := by decide +kernel
theorem dX3_least_49 : decode cX3_least 49 = .ok (.if_icmp .ge 23, 3) := by decide +kernel
theorem dX3_least_52 : decode cX3_least 52 = .ok (.aload_n 0, 1) := by decide +kernel
theorem dX3_least_53 : decode cX3_least 53 = .ok (.aload_n 0, 1) := by decide +kernel
theorem dX3_least_54 : decode cX3_least 54 = .ok (.getfield 17, 3) := by decide +kernel
theorem dX3_least_57 : decode cX3_least 57 = .ok (.iload_n 1, 1) := by decide +kernel
theorem dX3_least_58 : decode cX3_least 58 = .ok (.aaload, 1) := by decide +kernel
theorem dX3_least_59 : decode cX3_least 59 = .ok (.iload_n 2, 1) := by decide +kernel
theorem dX3_least_60 : decode cX3_least 60 = .ok (.iload_n 3, 1) := by decide +kernel
theorem dX3_least_61 : decode cX3_least 61 = .ok (.iload 4, 2) := by decide +kernel
theorem dX3_least_63 : decode cX3_least 63 = .ok (.invokevirtual 152, 3) := by decide +kernel
theorem dX3_least_66 : decode cX3_least 66 = .ok (.iinc 4 1, 3) := by decide +kernel
theorem dX3_least_69 : decode cX3_least 69 = .ok (.goto (-26), 3) := by decide +kernel
theorem dX3_least_72 : decode cX3_least 72 = .ok (.iinc 3 1, 3) := by decide +kernel
theorem dX3_least_75 : decode cX3_least 75 = .ok (.goto (-43), 3) := by decide +kernel
theorem dX3_least_78 : decode cX3_least 78 = .ok (.iinc 2 1, 3) := by decide +kernel
theorem dX3_least_81 : decode cX3_least 81 = .ok (.goto (-59), 3) := by decide +kernel
theorem dX3_least_84 : decode cX3_least 84 = .ok (.aload_n 0, 1) := by decide +kernel
theorem dX3_least_85 : decode cX3_least 85 = .ok (.iload_n 1, 1) := by decide +kernel
theorem dX3_least_86 : decode cX3_least 86 = .ok (.invokevirtual 95, 3) := by decide +kernel
theorem dX3_least_89 : decode cX3_least 89 = .ok (.iconst 1, 1) := by decide +kernel
theorem dX3_least_90 : decode cX3_least 90 = .ok (.ireturn, 1) := by decide +kernel
theorem dX3_many_0 : decode cX3_many 0 = .ok (.iload_n 1, 1) := by decide +kernel
theorem dX3_many_1 : decode cX3_many 1 = .ok (.invokestatic 156, 3) := by decide +kernel
theorem dX3_many_4 : decode cX3_many 4 = .ok (.ifCond .ne 5, 3) := by decide +kernel
theorem dX3_many_7 : decode cX3_many 7 = .ok (.iconst (-1), 1) := by decide +kernel
theorem dX3_many_8 : decode cX3_many 8 = .ok (.ireturn, 1) := by decide +kernel
theorem dX3_many_9 : decode cX3_many 9 = .ok (.aload_n 0, 1) := by decide +kernel
theorem dX3_many_10 : decode cX3_many 10 = .ok (.getfield 49, 3) := by decide +kernel
theorem dX3_many_13 : decode cX3_many 13 = .ok (.iload_n 1, 1) := by decide +kernel
theorem dX3_many_14 : decode cX3_many 14 = .ok (.invokevirtual 159, 3) := by decide +kernel
theorem dX3_many_17 : decode cX3_many 17 = .ok (.sipush 5000, 3) := by decide +kernel
theorem dX3_many_20 : decode cX3_many 20 = .ok (.if_icmp .le 6, 3) := by decide +kernel
theorem dX3_many_23 : decode cX3_many 23 = .ok (.bipush (-3), 2) := by decide +kernel
theorem dX3_many_25 : decode cX3_many 25 = .ok (.ireturn, 1) := by decide +kernel
theorem dX3_many_26 : decode cX3_many 26 = .ok (.aload_n 0, 1) := by decide +kernel
theorem dX3_many_27 : decode cX3_many 27 = .ok (.getfield 49, 3) := by decide +kernel
theorem dX3_many_30 : decode cX3_many 30 = .ok (.iload_n 1, 1) := by decide +kernel
theorem dX3_many_31 : decode cX3_many 31 = .ok (.invokevirtual 162, 3) := by decide +kernel
theorem dX3_many_34 : decode cX3_many 34 = .ok (.getfield 166, 3) := by decide +kernel
theorem dX3_many_37 : decode cX3_many 37 = .ok (.ireturn, 1) := by decide +kernel
theorem dX3_pick_0 : decode cX3_pick 0 = .ok (.iload_n 1, 1) := by decide +kernel
theorem dX3_pick_1 : decode cX3_pick 1 = .ok (.invokestatic 64, 3) := by decide +kernel
theorem dX3_pick_4 : decode cX3_pick 4 = .ok (.ifCond .eq 14, 3) := by decide +kernel
theorem dX3_pick_7 : decode cX3_pick 7 = .ok (.iload_n 2, 1) := by decide +kernel
theorem dX3_pick_8 : decode cX3_pick 8 = .ok (.invokestatic 156, 3) := by decide +kernel
theorem dX3_pick_11 : decode cX3_pick 11 = .ok (.ifCond .eq 7, 3) := by decide +kernel
theorem dX3_pick_14 : decode cX3_pick 14 = .ok (.iload_n 3, 1) := by decide +kernel
theorem dX3_pick_15 : decode cX3_pick 15 = .ok (.ifCond .ge 5, 3) := by decide +kernel
theorem dX3_pick_18 : decode cX3_pick 18 = .ok (.iconst (-1), 1) := by decide +kernel
theorem dX3_pick_19 : decode cX3_pick 19 = .ok (.ireturn, 1) := by decide +kernel
theorem dX3_pick_20 : decode cX3_pick 20 = .ok (.aload_n 0, 1) := by decide +kernel
theorem dX3_pick_21 : decode cX3_pick 21 = .ok (.getfield 49, 3) := by decide +kernel
theorem dX3_pick_24 : decode cX3_pick 24 = .ok (.iload_n 2, 1) := by decide +kernel
theorem dX3_pick_25 : decode cX3_pick 25 = .ok (.invokevirtual 159, 3) := by decide +kernel
theorem dX3_pick_28 : decode cX3_pick 28 = .ok (.sipush 5000, 3) := by decide +kernel
theorem dX3_pick_31 : decode cX3_pick 31 = .ok (.if_icmp .le 6, 3) := by decide +kernel
theorem dX3_pick_34 : decode cX3_pick 34 = .ok (.bipush (-3), 2) := by decide +kernel
theorem dX3_pick_36 : decode cX3_pick 36 = .ok (.ireturn, 1) := by decide +kernel
theorem dX3_pick_37 : decode cX3_pick 37 = .ok (.aload_n 0, 1) := by decide +kernel
theorem dX3_pick_38 : decode cX3_pick 38 = .ok (.getfield 49, 3) := by decide +kernel
theorem dX3_pick_41 : decode cX3_pick 41 = .ok (.iload_n 2, 1) := by decide +kernel
theorem dX3_pick_42 : decode cX3_pick 42 = .ok (.invokevirtual 162, 3) := by decide +kernel
theorem dX3_pick_45 : decode cX3_pick 45 = .ok (.astore 4, 2) := by decide +kernel
theorem dX3_pick_47 : decode cX3_pick 47 = .ok (.iload_n 3, 1) := by decide +kernel
theorem dX3_pick_48 : decode cX3_pick 48 = .ok (.aload 4, 2) := by decide +kernel
theorem dX3_pick_50 : decode cX3_pick 50 = .ok (.getfield 166, 3) := by decide +kernel
theorem dX3_pick_53 : decode cX3_pick 53 = .ok (.if_icmp .lt 5, 3) := by decide +kernel
theorem dX3_pick_56 : decode cX3_pick 56 = .ok (.iconst (-1), 1) := by decide +kernel
theorem dX3_pick_57 : decode cX3_pick 57 = .ok (.ireturn, 1) := by decide +kernel
theorem dX3_pick_58 : decode cX3_pick 58 = .ok (.aload 4, 2) := by decide +kernel
theorem dX3_pick_60 : decode cX3_pick 60 = .ok (.getfield 171, 3) := by decide +kernel
theorem dX3_pick_63 : decode cX3_pick 63 = .ok (.iload_n 3, 1) := by decide +kernel
theorem dX3_pick_64 : decode cX3_pick 64 = .ok (.iaload, 1) := by decide +kernel
theorem dX3_pick_65 : decode cX3_pick 65 = .ok (.istore 5, 2) := by decide +kernel
theorem dX3_pick_67 : decode cX3_pick 67 = .ok (.aload_n 0, 1) := by decide +kernel
theorem dX3_pick_68 : decode cX3_pick 68 = .ok (.getfield 49, 3) := by decide +kernel
theorem dX3_pick_71 : decode cX3_pick 71 = .ok (.iload_n 2, 1) := by decide +kernel
theorem dX3_pick_72 : decode cX3_pick 72 = .ok (.iload 5, 2) := by decide +kernel
theorem dX3_pick_74 : decode cX3_pick 74 = .ok (.invokevirtual 174, 3) := by decide +kernel
theorem dX3_pick_77 : decode cX3_pick 77 = .ok (.iconst 0, 1) := by decide +kernel
theorem dX3_pick_78 : decode cX3_pick 78 = .ok (.istore 6, 2) := by decide +kernel
theorem dX3_pick_80 : decode cX3_pick 80 = .ok (.iload 6, 2) := by decide +kernel
theorem dX3_pick_82 : decode cX3_pick 82 = .ok (.aload_n 0, 1) := by decide +kernel
theorem dX3_pick_83 : decode cX3_pick 83 = .ok (.getfield 42, 3) := by decide +kernel
theorem dX3_pick_86 : decode cX3_pick 86 = .ok (.if_icmp .ge 28, 3) := by decide +kernel
theorem dX3_pick_89 : decode cX3_pick 89 = .ok (.aload_n 0, 1) := by decide +kernel
theorem dX3_pick_90 : decode cX3_pick 90 = .ok (.getfield 17, 3) := by decide +kernel
theorem dX3_pick_93 : decode cX3_pick 93 = .ok (.iload_n 1, 1) := by decide +kernel
theorem dX3_pick_94 : decode cX3_pick 94 = .ok (.aaload, 1) := by decide +kernel
theorem dX3_pick_95 : decode cX3_pick 95 = .ok (.iload 6, 2) := by decide +kernel
theorem dX3_pick_97 : decode cX3_pick 97 = .ok (.aload_n 0, 1) := by decide +kernel
theorem dX3_pick_98 : decode cX3_pick 98 = .ok (.getfield 49, 3) := by decide +kernel
theorem dX3_pick_101 : decode cX3_pick 101 = .ok (.iload_n 2, 1) := by decide +kernel
theorem dX3_pick_102 : decode cX3_pick 102 = .ok (.iload 6, 2) := by decide +kernel
theorem dX3_pick_104 : decode cX3_pick 104 = .ok (.invokevirtual 178, 3) := by decide +kernel
theorem dX3_pick_107 : decode cX3_pick 107 = .ok (.iastore, 1) := by decide +kernel
theorem dX3_pick_108 : decode cX3_pick 108 = .ok (.iinc 6 1, 3) := by decide +kernel
theorem dX3_pick_111 : decode cX3_pick 111 = .ok (.goto (-31), 3) := by decide +kernel
theorem dX3_pick_114 : decode cX3_pick 114 = .ok (.iload 5, 2) := by decide +kernel
theorem dX3_pick_116 : decode cX3_pick 116 = .ok (.ireturn, 1) := by decide +kernel
theorem dX3_count_0 : decode cX3_count 0 = .ok (.iload_n 1, 1) := by decide +kernel
theorem dX3_count_1 : decode cX3_count 1 = .ok (.tableswitch 45 0 2 #[27, 32, 40], 27) := by decide +kernel
theorem dX3_count_28 : decode cX3_count 28 = .ok (.aload_n 0, 1) := by decide +kernel
theorem dX3_count_29 : decode cX3_count 29 = .ok (.getfield 42, 3) := by decide +kernel
theorem dX3_count_32 : decode cX3_count 32 = .ok (.ireturn, 1) := by decide +kernel
theorem dX3_count_33 : decode cX3_count 33 = .ok (.aload_n 0, 1) := by decide +kernel
theorem dX3_count_34 : decode cX3_count 34 = .ok (.getfield 49, 3) := by decide +kernel
theorem dX3_count_37 : decode cX3_count 37 = .ok (.getfield 181, 3) := by decide +kernel
theorem dX3_count_40 : decode cX3_count 40 = .ok (.ireturn, 1) := by decide +kernel
theorem dX3_count_41 : decode cX3_count 41 = .ok (.aload_n 0, 1) := by decide +kernel
theorem dX3_count_42 : decode cX3_count 42 = .ok (.invokevirtual 184, 3) := by decide +kernel
theorem dX3_count_45 : decode cX3_count 45 = .ok (.ireturn, 1) := by decide +kernel
theorem dX3_count_46 : decode cX3_count 46 = .ok (.iconst (-1), 1) := by decide +kernel
theorem dX3_count_47 : decode cX3_count 47 = .ok (.ireturn, 1) := by decide +kernel
theorem dX3_trace_0 : decode cX3_trace 0 = .ok (.aload_n 0, 1) := by decide +kernel
theorem dX3_trace_1 : decode cX3_trace 1 = .ok (.getfield 89, 3) := by decide +kernel
theorem dX3_trace_4 : decode cX3_trace 4 = .ok (.lreturn, 1) := by decide +kernel
theorem dX3_isFieldSize_0 : decode cX3_isFieldSize 0 = .ok (.iload_n 0, 1) := by decide +kernel
theorem dX3_isFieldSize_1 : decode cX3_isFieldSize 1 = .ok (.tableswitch 77 2 16 #[75, 75, 75, 75, 77, 75, 75, 75, 77, 75, 77, 75, 77, 77, 75], 75) := by decide +kernel
theorem dX3_isFieldSize_76 : decode cX3_isFieldSize 76 = .ok (.iconst 1, 1) := by decide +kernel
theorem dX3_isFieldSize_77 : decode cX3_isFieldSize 77 = .ok (.ireturn, 1) := by decide +kernel
theorem dX3_isFieldSize_78 : decode cX3_isFieldSize 78 = .ok (.iconst 0, 1) := by decide +kernel
theorem dX3_isFieldSize_79 : decode cX3_isFieldSize 79 = .ok (.ireturn, 1) := by decide +kernel
theorem dX3_isMap_0 : decode cX3_isMap 0 = .ok (.iload_n 0, 1) := by decide +kernel
theorem dX3_isMap_1 : decode cX3_isMap 1 = .ok (.ifCond .lt 12, 3) := by decide +kernel
theorem dX3_isMap_4 : decode cX3_isMap 4 = .ok (.iload_n 0, 1) := by decide +kernel
theorem dX3_isMap_5 : decode cX3_isMap 5 = .ok (.iconst 4, 1) := by decide +kernel
theorem dX3_isMap_6 : decode cX3_isMap 6 = .ok (.if_icmp .ge 7, 3) := by decide +kernel
theorem dX3_isMap_9 : decode cX3_isMap 9 = .ok (.iconst 1, 1) := by decide +kernel
theorem dX3_isMap_10 : decode cX3_isMap 10 = .ok (.goto 4, 3) := by decide +kernel
theorem dX3_isMap_13 : decode cX3_isMap 13 = .ok (.iconst 0, 1) := by decide +kernel
theorem dX3_isMap_14 : decode cX3_isMap 14 = .ok (.ireturn, 1) := by decide +kernel
theorem dX3_isListDegree_0 : decode cX3_isListDegree 0 = .ok (.iload_n 0, 1) := by decide +kernel
theorem dX3_isListDegree_1 : decode cX3_isListDegree 1 = .ok (.iconst 1, 1) := by decide +kernel
theorem dX3_isListDegree_2 : decode cX3_isListDegree 2 = .ok (.if_icmp .lt 12, 3) := by decide +kernel
theorem dX3_isListDegree_5 : decode cX3_isListDegree 5 = .ok (.iload_n 0, 1) := by decide +kernel
theorem dX3_isListDegree_6 : decode cX3_isListDegree 6 = .ok (.iconst 5, 1) := by decide +kernel
theorem dX3_isListDegree_7 : decode cX3_isListDegree 7 = .ok (.if_icmp .gt 7, 3) := by decide +kernel
theorem dX3_isListDegree_10 : decode cX3_isListDegree 10 = .ok (.iconst 1, 1) := by decide +kernel
theorem dX3_isListDegree_11 : decode cX3_isListDegree 11 = .ok (.goto 4, 3) := by decide +kernel
theorem dX3_isListDegree_14 : decode cX3_isListDegree 14 = .ok (.iconst 0, 1) := by decide +kernel
theorem dX3_isListDegree_15 : decode cX3_isListDegree 15 = .ok (.ireturn, 1) := by decide +kernel
theorem dX3_isNumber_0 : decode cX3_isNumber 0 = .ok (.iload_n 1, 1) := by decide +kernel
theorem dX3_isNumber_1 : decode cX3_isNumber 1 = .ok (.ifCond .lt 15, 3) := by decide +kernel
theorem dX3_isNumber_4 : decode cX3_isNumber 4 = .ok (.iload_n 1, 1) := by decide +kernel
theorem dX3_isNumber_5 : decode cX3_isNumber 5 = .ok (.aload_n 0, 1) := by decide +kernel
theorem dX3_isNumber_6 : decode cX3_isNumber 6 = .ok (.getfield 42, 3) := by decide +kernel
theorem dX3_isNumber_9 : decode cX3_isNumber 9 = .ok (.if_icmp .ge 7, 3) := by decide +kernel
theorem dX3_isNumber_12 : decode cX3_isNumber 12 = .ok (.iconst 1, 1) := by decide +kernel
theorem dX3_isNumber_13 : decode cX3_isNumber 13 = .ok (.goto 4, 3) := by decide +kernel
theorem dX3_isNumber_16 : decode cX3_isNumber 16 = .ok (.iconst 0, 1) := by decide +kernel
theorem dX3_isNumber_17 : decode cX3_isNumber 17 = .ok (.ireturn, 1) := by decide +kernel
theorem dX3_isRecipe_0 : decode cX3_isRecipe 0 = .ok (.iload_n 1, 1) := by decide +kernel
theorem dX3_isRecipe_1 : decode cX3_isRecipe 1 = .ok (.ifCond .lt 20, 3) := by decide +kernel
theorem dX3_isRecipe_4 : decode cX3_isRecipe 4 = .ok (.iload_n 1, 1) := by decide +kernel
theorem dX3_isRecipe_5 : decode cX3_isRecipe 5 = .ok (.iconst 2, 1) := by decide +kernel
theorem dX3_isRecipe_6 : decode cX3_isRecipe 6 = .ok (.if_icmp .gt 15, 3) := by decide +kernel
theorem dX3_isRecipe_9 : decode cX3_isRecipe 9 = .ok (.iload_n 2, 1) := by decide +kernel
theorem dX3_isRecipe_10 : decode cX3_isRecipe 10 = .ok (.iconst 1, 1) := by decide +kernel
theorem dX3_isRecipe_11 : decode cX3_isRecipe 11 = .ok (.if_icmp .lt 10, 3) := by decide +kernel
theorem dX3_isRecipe_14 : decode cX3_isRecipe 14 = .ok (.iload_n 2, 1) := by decide +kernel
theorem dX3_isRecipe_15 : decode cX3_isRecipe 15 = .ok (.sipush 255, 3) := by decide +kernel
theorem dX3_isRecipe_18 : decode cX3_isRecipe 18 = .ok (.if_icmp .le 5, 3) := by decide +kernel
theorem dX3_isRecipe_21 : decode cX3_isRecipe 21 = .ok (.iconst 0, 1) := by decide +kernel
theorem dX3_isRecipe_22 : decode cX3_isRecipe 22 = .ok (.ireturn, 1) := by decide +kernel
theorem dX3_isRecipe_23 : decode cX3_isRecipe 23 = .ok (.iload_n 1, 1) := by decide +kernel
theorem dX3_isRecipe_24 : decode cX3_isRecipe 24 = .ok (.ifCond .eq 29, 3) := by decide +kernel
theorem dX3_isRecipe_27 : decode cX3_isRecipe 27 = .ok (.aload_n 0, 1) := by decide +kernel
theorem dX3_isRecipe_28 : decode cX3_isRecipe 28 = .ok (.iload_n 3, 1) := by decide +kernel
theorem dX3_isRecipe_29 : decode cX3_isRecipe 29 = .ok (.invokevirtual 46, 3) := by decide +kernel
theorem dX3_isRecipe_32 : decode cX3_isRecipe 32 = .ok (.ifCond .eq 25, 3) := by decide +kernel
theorem dX3_isRecipe_35 : decode cX3_isRecipe 35 = .ok (.aload_n 0, 1) := by decide +kernel
theorem dX3_isRecipe_36 : decode cX3_isRecipe 36 = .ok (.iload 4, 2) := by decide +kernel
theorem dX3_isRecipe_38 : decode cX3_isRecipe 38 = .ok (.invokevirtual 46, 3) := by decide +kernel
theorem dX3_isRecipe_41 : decode cX3_isRecipe 41 = .ok (.ifCond .eq 16, 3) := by decide +kernel
theorem dX3_isRecipe_44 : decode cX3_isRecipe 44 = .ok (.aload_n 0, 1) := by decide +kernel
theorem dX3_isRecipe_45 : decode cX3_isRecipe 45 = .ok (.iload 5, 2) := by decide +kernel
theorem dX3_isRecipe_47 : decode cX3_isRecipe 47 = .ok (.invokevirtual 46, 3) := by decide +kernel
theorem dX3_isRecipe_50 : decode cX3_isRecipe 50 = .ok (.ifCond .eq 7, 3) := by decide +kernel
theorem dX3_isRecipe_53 : decode cX3_isRecipe 53 = .ok (.iconst 1, 1) := by decide +kernel
theorem dX3_isRecipe_54 : decode cX3_isRecipe 54 = .ok (.goto 4, 3) := by decide +kernel
theorem dX3_isRecipe_57 : decode cX3_isRecipe 57 = .ok (.iconst 0, 1) := by decide +kernel
theorem dX3_isRecipe_58 : decode cX3_isRecipe 58 = .ok (.ireturn, 1) := by decide +kernel
theorem dX3_hasBits_0 : decode cX3_hasBits 0 = .ok (.aload_n 0, 1) := by decide +kernel
theorem dX3_hasBits_1 : decode cX3_hasBits 1 = .ok (.getfield 49, 3) := by decide +kernel
theorem dX3_hasBits_4 : decode cX3_hasBits 4 = .ok (.getfield 181, 3) := by decide +kernel
theorem dX3_hasBits_7 : decode cX3_hasBits 7 = .ok (.iconst 2, 1) := by decide +kernel
theorem dX3_hasBits_8 : decode cX3_hasBits 8 = .ok (.if_icmp .ne 7, 3) := by decide +kernel
theorem dX3_hasBits_11 : decode cX3_hasBits 11 = .ok (.iconst 1, 1) := by decide +kernel
theorem dX3_hasBits_12 : decode cX3_hasBits 12 = .ok (.goto 4, 3) := by decide +kernel
theorem dX3_hasBits_15 : decode cX3_hasBits 15 = .ok (.iconst 0, 1) := by decide +kernel
theorem dX3_hasBits_16 : decode cX3_hasBits 16 = .ok (.ireturn, 1) := by decide +kernel
theorem dX3_truth_0 : decode cX3_truth 0 = .ok (.iload_n 0, 1) := by decide +kernel
theorem dX3_truth_1 : decode cX3_truth 1 = .ok (.ifCond .eq 7, 3) := by decide +kernel
theorem dX3_truth_4 : decode cX3_truth 4 = .ok (.iconst 1, 1) := by decide +kernel
theorem dX3_truth_5 : decode cX3_truth 5 = .ok (.goto 4, 3) := by decide +kernel
theorem dX3_truth_8 : decode cX3_truth 8 = .ok (.iconst 0, 1) := by decide +kernel
theorem dX3_truth_9 : decode cX3_truth 9 = .ok (.ireturn, 1) := by decide +kernel
theorem dX3_enter_0 : decode cX3_enter 0 = .ok (.aload_n 0, 1) := by decide +kernel
theorem dX3_enter_1 : decode cX3_enter 1 = .ok (.getfield 11, 3) := by decide +kernel
theorem dX3_enter_4 : decode cX3_enter 4 = .ok (.iload_n 1, 1) := by decide +kernel
theorem dX3_enter_5 : decode cX3_enter 5 = .ok (.aaload, 1) := by decide +kernel
theorem dX3_enter_6 : decode cX3_enter 6 = .ok (.ifnonnull 17, 3) := by decide +kernel
theorem dX3_enter_9 : decode cX3_enter 9 = .ok (.aload_n 0, 1) := by decide +kernel
theorem dX3_enter_10 : decode cX3_enter 10 = .ok (.getfield 11, 3) := by decide +kernel
theorem dX3_enter_13 : decode cX3_enter 13 = .ok (.iload_n 1, 1) := by decide +kernel
theorem dX3_enter_14 : decode cX3_enter 14 = .ok (.new 9, 3) := by decide +kernel
theorem dX3_enter_17 : decode cX3_enter 17 = .ok (.dup, 1) := by decide +kernel
theorem dX3_enter_18 : decode cX3_enter 18 = .ok (.iload_n 1, 1) := by decide +kernel
theorem dX3_enter_19 : decode cX3_enter 19 = .ok (.invokespecial 188, 3) := by decide +kernel
theorem dX3_enter_22 : decode cX3_enter 22 = .ok (.aastore, 1) := by decide +kernel
theorem dX3_enter_23 : decode cX3_enter 23 = .ok (.aload_n 0, 1) := by decide +kernel
theorem dX3_enter_24 : decode cX3_enter 24 = .ok (.aload_n 0, 1) := by decide +kernel
theorem dX3_enter_25 : decode cX3_enter 25 = .ok (.getfield 11, 3) := by decide +kernel
theorem dX3_enter_28 : decode cX3_enter 28 = .ok (.iload_n 1, 1) := by decide +kernel
theorem dX3_enter_29 : decode cX3_enter 29 = .ok (.aaload, 1) := by decide +kernel
theorem dX3_enter_30 : decode cX3_enter 30 = .ok (.putfield 49, 3) := by decide +kernel
theorem dX3_enter_33 : decode cX3_enter 33 = .ok (.aload_n 0, 1) := by decide +kernel
theorem dX3_enter_34 : decode cX3_enter 34 = .ok (.iload_n 1, 1) := by decide +kernel
theorem dX3_enter_35 : decode cX3_enter 35 = .ok (.putfield 42, 3) := by decide +kernel
theorem dX3_enter_38 : decode cX3_enter 38 = .ok (.iconst 0, 1) := by decide +kernel
theorem dX3_enter_39 : decode cX3_enter 39 = .ok (.istore_n 2, 1) := by decide +kernel
theorem dX3_enter_40 : decode cX3_enter 40 = .ok (.iload_n 2, 1) := by decide +kernel
theorem dX3_enter_41 : decode cX3_enter 41 = .ok (.iconst 4, 1) := by decide +kernel
theorem dX3_enter_42 : decode cX3_enter 42 = .ok (.if_icmp .ge 34, 3) := by decide +kernel
theorem dX3_enter_45 : decode cX3_enter 45 = .ok (.iconst 0, 1) := by decide +kernel
theorem dX3_enter_46 : decode cX3_enter 46 = .ok (.istore_n 3, 1) := by decide +kernel
theorem dX3_enter_47 : decode cX3_enter 47 = .ok (.iload_n 3, 1) := by decide +kernel
theorem dX3_enter_48 : decode cX3_enter 48 = .ok (.aload_n 0, 1) := by decide +kernel
theorem dX3_enter_49 : decode cX3_enter 49 = .ok (.getfield 42, 3) := by decide +kernel
theorem dX3_enter_52 : decode cX3_enter 52 = .ok (.if_icmp .ge 18, 3) := by decide +kernel
theorem dX3_enter_55 : decode cX3_enter 55 = .ok (.aload_n 0, 1) := by decide +kernel
theorem dX3_enter_56 : decode cX3_enter 56 = .ok (.getfield 17, 3) := by decide +kernel
theorem dX3_enter_59 : decode cX3_enter 59 = .ok (.iload_n 2, 1) := by decide +kernel
theorem dX3_enter_60 : decode cX3_enter 60 = .ok (.aaload, 1) := by decide +kernel
theorem dX3_enter_61 : decode cX3_enter 61 = .ok (.iload_n 3, 1) := by decide +kernel
theorem dX3_enter_62 : decode cX3_enter 62 = .ok (.iload_n 3, 1) := by decide +kernel
theorem dX3_enter_63 : decode cX3_enter 63 = .ok (.iastore, 1) := by decide +kernel
theorem dX3_enter_64 : decode cX3_enter 64 = .ok (.iinc 3 1, 3) := by decide +kernel
theorem dX3_enter_67 : decode cX3_enter 67 = .ok (.goto (-20), 3) := by decide +kernel
theorem dX3_enter_70 : decode cX3_enter 70 = .ok (.iinc 2 1, 3) := by decide +kernel
theorem dX3_enter_73 : decode cX3_enter 73 = .ok (.goto (-33), 3) := by decide +kernel
theorem dX3_enter_76 : decode cX3_enter 76 = .ok (.return_, 1) := by decide +kernel
theorem dX3_putSpare_0 : decode cX3_putSpare 0 = .ok (.aload_n 0, 1) := by decide +kernel
theorem dX3_putSpare_1 : decode cX3_putSpare 1 = .ok (.getfield 20, 3) := by decide +kernel
theorem dX3_putSpare_4 : decode cX3_putSpare 4 = .ok (.iconst 0, 1) := by decide +kernel
theorem dX3_putSpare_5 : decode cX3_putSpare 5 = .ok (.aload_n 0, 1) := by decide +kernel
theorem dX3_putSpare_6 : decode cX3_putSpare 6 = .ok (.getfield 17, 3) := by decide +kernel
theorem dX3_putSpare_9 : decode cX3_putSpare 9 = .ok (.iload_n 1, 1) := by decide +kernel
theorem dX3_putSpare_10 : decode cX3_putSpare 10 = .ok (.aaload, 1) := by decide +kernel
theorem dX3_putSpare_11 : decode cX3_putSpare 11 = .ok (.iconst 0, 1) := by decide +kernel
theorem dX3_putSpare_12 : decode cX3_putSpare 12 = .ok (.aload_n 0, 1) := by decide +kernel
theorem dX3_putSpare_13 : decode cX3_putSpare 13 = .ok (.getfield 42, 3) := by decide +kernel
theorem dX3_putSpare_16 : decode cX3_putSpare 16 = .ok (.invokestatic 190, 3) := by decide +kernel
theorem dX3_putSpare_19 : decode cX3_putSpare 19 = .ok (.return_, 1) := by decide +kernel
theorem dX3_shufflingMaps_0 : decode cX3_shufflingMaps 0 = .ok (.iconst 0, 1) := by decide +kernel
theorem dX3_shufflingMaps_1 : decode cX3_shufflingMaps 1 = .ok (.istore_n 1, 1) := by decide +kernel
theorem dX3_shufflingMaps_2 : decode cX3_shufflingMaps 2 = .ok (.iconst 0, 1) := by decide +kernel
theorem dX3_shufflingMaps_3 : decode cX3_shufflingMaps 3 = .ok (.istore_n 2, 1) := by decide +kernel
theorem dX3_shufflingMaps_4 : decode cX3_shufflingMaps 4 = .ok (.iload_n 2, 1) := by decide +kernel
theorem dX3_shufflingMaps_5 : decode cX3_shufflingMaps 5 = .ok (.iconst 4, 1) := by decide +kernel
theorem dX3_shufflingMaps_6 : decode cX3_shufflingMaps 6 = .ok (.if_icmp .ge 25, 3) := by decide +kernel
theorem dX3_shufflingMaps_9 : decode cX3_shufflingMaps 9 = .ok (.iload_n 1, 1) := by decide +kernel
theorem dX3_shufflingMaps_10 : decode cX3_shufflingMaps 10 = .ok (.aload_n 0, 1) := by decide +kernel
theorem dX3_shufflingMaps_11 : decode cX3_shufflingMaps 11 = .ok (.aload_n 0, 1) := by decide +kernel
theorem dX3_shufflingMaps_12 : decode cX3_shufflingMaps 12 = .ok (.getfield 17, 3) := by decide +kernel
theorem dX3_shufflingMaps_15 : decode cX3_shufflingMaps 15 = .ok (.iload_n 2, 1) := by decide +kernel
theorem dX3_shufflingMaps_16 : decode cX3_shufflingMaps 16 = .ok (.aaload, 1) := by decide +kernel
theorem dX3_shufflingMaps_17 : decode cX3_shufflingMaps 17 = .ok (.invokevirtual 98, 3) := by decide +kernel
theorem dX3_shufflingMaps_20 : decode cX3_shufflingMaps 20 = .ok (.invokestatic 102, 3) := by decide +kernel
theorem dX3_shufflingMaps_23 : decode cX3_shufflingMaps 23 = .ok (.iadd, 1) := by decide +kernel
theorem dX3_shufflingMaps_24 : decode cX3_shufflingMaps 24 = .ok (.istore_n 1, 1) := by decide +kernel
theorem dX3_shufflingMaps_25 : decode cX3_shufflingMaps 25 = .ok (.iinc 2 1, 3) := by decide +kernel
theorem dX3_shufflingMaps_28 : decode cX3_shufflingMaps 28 = .ok (.goto (-24), 3) := by decide +kernel
theorem dX3_shufflingMaps_31 : decode cX3_shufflingMaps 31 = .ok (.iload_n 1, 1) := by decide +kernel
theorem dX3_shufflingMaps_32 : decode cX3_shufflingMaps 32 = .ok (.ireturn, 1) := by decide +kernel
theorem dX3_coefficientOf_0 : decode cX3_coefficientOf 0 = .ok (.iload_n 2, 1) := by decide +kernel
theorem dX3_coefficientOf_1 : decode cX3_coefficientOf 1 = .ok (.ifCond .ne 7, 3) := by decide +kernel
theorem dX3_coefficientOf_4 : decode cX3_coefficientOf 4 = .ok (.aload_n 1, 1) := by decide +kernel
theorem dX3_coefficientOf_5 : decode cX3_coefficientOf 5 = .ok (.iconst 0, 1) := by decide +kernel
theorem dX3_coefficientOf_6 : decode cX3_coefficientOf 6 = .ok (.iaload, 1) := by decide +kernel
theorem dX3_coefficientOf_7 : decode cX3_coefficientOf 7 = .ok (.ireturn, 1) := by decide +kernel
theorem dX3_coefficientOf_8 : decode cX3_coefficientOf 8 = .ok (.iconst 0, 1) := by decide +kernel
theorem dX3_coefficientOf_9 : decode cX3_coefficientOf 9 = .ok (.istore_n 3, 1) := by decide +kernel
theorem dX3_coefficientOf_10 : decode cX3_coefficientOf 10 = .ok (.iconst 0, 1) := by decide +kernel
theorem dX3_coefficientOf_11 : decode cX3_coefficientOf 11 = .ok (.istore 4, 2) := by decide +kernel
theorem dX3_coefficientOf_13 : decode cX3_coefficientOf 13 = .ok (.iload 4, 2) := by decide +kernel
theorem dX3_coefficientOf_15 : decode cX3_coefficientOf 15 = .ok (.aload_n 0, 1) := by decide +kernel
theorem dX3_coefficientOf_16 : decode cX3_coefficientOf 16 = .ok (.getfield 42, 3) := by decide +kernel
theorem dX3_coefficientOf_19 : decode cX3_coefficientOf 19 = .ok (.if_icmp .ge 46, 3) := by decide +kernel
theorem dX3_coefficientOf_22 : decode cX3_coefficientOf 22 = .ok (.aload_n 0, 1) := by decide +kernel
theorem dX3_coefficientOf_23 : decode cX3_coefficientOf 23 = .ok (.getfield 49, 3) := by decide +kernel
theorem dX3_coefficientOf_26 : decode cX3_coefficientOf 26 = .ok (.iload_n 3, 1) := by decide +kernel
theorem dX3_coefficientOf_27 : decode cX3_coefficientOf 27 = .ok (.aload_n 0, 1) := by decide +kernel
theorem dX3_coefficientOf_28 : decode cX3_coefficientOf 28 = .ok (.getfield 49, 3) := by decide +kernel
theorem dX3_coefficientOf_31 : decode cX3_coefficientOf 31 = .ok (.aload_n 1, 1) := by decide +kernel
theorem dX3_coefficientOf_32 : decode cX3_coefficientOf 32 = .ok (.iload 4, 2) := by decide +kernel
theorem dX3_coefficientOf_34 : decode cX3_coefficientOf 34 = .ok (.iaload, 1) := by decide +kernel
theorem dX3_coefficientOf_35 : decode cX3_coefficientOf 35 = .ok (.aload_n 0, 1) := by decide +kernel
theorem dX3_coefficientOf_36 : decode cX3_coefficientOf 36 = .ok (.getfield 49, 3) := by decide +kernel
theorem dX3_coefficientOf_39 : decode cX3_coefficientOf 39 = .ok (.iload 4, 2) := by decide +kernel
theorem dX3_coefficientOf_41 : decode cX3_coefficientOf 41 = .ok (.aload_n 0, 1) := by decide +kernel
theorem dX3_coefficientOf_42 : decode cX3_coefficientOf 42 = .ok (.getfield 42, 3) := by decide +kernel
theorem dX3_coefficientOf_45 : decode cX3_coefficientOf 45 = .ok (.iconst 1, 1) := by decide +kernel
theorem dX3_coefficientOf_46 : decode cX3_coefficientOf 46 = .ok (.isub, 1) := by decide +kernel
theorem dX3_coefficientOf_47 : decode cX3_coefficientOf 47 = .ok (.iload_n 2, 1) := by decide +kernel
theorem dX3_coefficientOf_48 : decode cX3_coefficientOf 48 = .ok (.isub, 1) := by decide +kernel
theorem dX3_coefficientOf_49 : decode cX3_coefficientOf 49 = .ok (.invokevirtual 74, 3) := by decide +kernel
theorem dX3_coefficientOf_52 : decode cX3_coefficientOf 52 = .ok (.invokevirtual 57, 3) := by decide +kernel
theorem dX3_coefficientOf_55 : decode cX3_coefficientOf 55 = .ok (.invokevirtual 53, 3) := by decide +kernel
theorem dX3_coefficientOf_58 : decode cX3_coefficientOf 58 = .ok (.istore_n 3, 1) := by decide +kernel
theorem dX3_coefficientOf_59 : decode cX3_coefficientOf 59 = .ok (.iinc 4 1, 3) := by decide +kernel
theorem dX3_coefficientOf_62 : decode cX3_coefficientOf 62 = .ok (.goto (-49), 3) := by decide +kernel
theorem dX3_coefficientOf_65 : decode cX3_coefficientOf 65 = .ok (.aload_n 0, 1) := by decide +kernel
theorem dX3_coefficientOf_66 : decode cX3_coefficientOf 66 = .ok (.getfield 49, 3) := by decide +kernel
theorem dX3_coefficientOf_69 : decode cX3_coefficientOf 69 = .ok (.iconst 0, 1) := by decide +kernel
theorem dX3_coefficientOf_70 : decode cX3_coefficientOf 70 = .ok (.iload_n 3, 1) := by decide +kernel
theorem dX3_coefficientOf_71 : decode cX3_coefficientOf 71 = .ok (.invokevirtual 71, 3) := by decide +kernel
theorem dX3_coefficientOf_74 : decode cX3_coefficientOf 74 = .ok (.ireturn, 1) := by decide +kernel
theorem dX3_imageSize_0 : decode cX3_imageSize 0 = .ok (.iconst 0, 1) := by decide +kernel
theorem dX3_imageSize_1 : decode cX3_imageSize 1 = .ok (.istore_n 2, 1) := by decide +kernel
theorem dX3_imageSize_2 : decode cX3_imageSize 2 = .ok (.iconst 0, 1) := by decide +kernel
theorem dX3_imageSize_3 : decode cX3_imageSize 3 = .ok (.istore_n 3, 1) := by decide +kernel
theorem dX3_imageSize_4 : decode cX3_imageSize 4 = .ok (.iload_n 3, 1) := by decide +kernel
theorem dX3_imageSize_5 : decode cX3_imageSize 5 = .ok (.aload_n 0, 1) := by decide +kernel
theorem dX3_imageSize_6 : decode cX3_imageSize 6 = .ok (.getfield 42, 3) := by decide +kernel
theorem dX3_imageSize_9 : decode cX3_imageSize 9 = .ok (.if_icmp .ge 17, 3) := by decide +kernel
theorem dX3_imageSize_12 : decode cX3_imageSize 12 = .ok (.iload_n 2, 1) := by decide +kernel
theorem dX3_imageSize_13 : decode cX3_imageSize 13 = .ok (.iconst 1, 1) := by decide +kernel
theorem dX3_imageSize_14 : decode cX3_imageSize 14 = .ok (.aload_n 1, 1) := by decide +kernel
theorem dX3_imageSize_15 : decode cX3_imageSize 15 = .ok (.iload_n 3, 1) := by decide +kernel
theorem dX3_imageSize_16 : decode cX3_imageSize 16 = .ok (.iaload, 1) := by decide +kernel
theorem dX3_imageSize_17 : decode cX3_imageSize 17 = .ok (.ishl, 1) := by decide +kernel
theorem dX3_imageSize_18 : decode cX3_imageSize 18 = .ok (.ior, 1) := by decide +kernel
theorem dX3_imageSize_19 : decode cX3_imageSize 19 = .ok (.istore_n 2, 1) := by decide +kernel
theorem dX3_imageSize_20 : decode cX3_imageSize 20 = .ok (.iinc 3 1, 3) := by decide +kernel
theorem dX3_imageSize_23 : decode cX3_imageSize 23 = .ok (.goto (-19), 3) := by decide +kernel
theorem dX3_imageSize_26 : decode cX3_imageSize 26 = .ok (.iload_n 2, 1) := by decide +kernel
theorem dX3_imageSize_27 : decode cX3_imageSize 27 = .ok (.invokestatic 196, 3) := by decide +kernel
theorem dX3_imageSize_30 : decode cX3_imageSize 30 = .ok (.ireturn, 1) := by decide +kernel
theorem dX3_isShuffle_0 : decode cX3_isShuffle 0 = .ok (.aload_n 0, 1) := by decide +kernel
theorem dX3_isShuffle_1 : decode cX3_isShuffle 1 = .ok (.aload_n 1, 1) := by decide +kernel
theorem dX3_isShuffle_2 : decode cX3_isShuffle 2 = .ok (.invokevirtual 115, 3) := by decide +kernel
theorem dX3_isShuffle_5 : decode cX3_isShuffle 5 = .ok (.aload_n 0, 1) := by decide +kernel
theorem dX3_isShuffle_6 : decode cX3_isShuffle 6 = .ok (.getfield 42, 3) := by decide +kernel
theorem dX3_isShuffle_9 : decode cX3_isShuffle 9 = .ok (.if_icmp .ne 7, 3) := by decide +kernel
theorem dX3_isShuffle_12 : decode cX3_isShuffle 12 = .ok (.iconst 1, 1) := by decide +kernel
theorem dX3_isShuffle_13 : decode cX3_isShuffle 13 = .ok (.goto 4, 3) := by decide +kernel
theorem dX3_isShuffle_16 : decode cX3_isShuffle 16 = .ok (.iconst 0, 1) := by decide +kernel
theorem dX3_isShuffle_17 : decode cX3_isShuffle 17 = .ok (.ireturn, 1) := by decide +kernel
theorem dX3_timesTaken_0 : decode cX3_timesTaken 0 = .ok (.iconst 0, 1) := by decide +kernel
theorem dX3_timesTaken_1 : decode cX3_timesTaken 1 = .ok (.istore_n 3, 1) := by decide +kernel
theorem dX3_timesTaken_2 : decode cX3_timesTaken 2 = .ok (.iconst 0, 1) := by decide +kernel
theorem dX3_timesTaken_3 : decode cX3_timesTaken 3 = .ok (.istore 4, 2) := by decide +kernel
theorem dX3_timesTaken_5 : decode cX3_timesTaken 5 = .ok (.iload 4, 2) := by decide +kernel
theorem dX3_timesTaken_7 : decode cX3_timesTaken 7 = .ok (.aload_n 0, 1) := by decide +kernel
theorem dX3_timesTaken_8 : decode cX3_timesTaken 8 = .ok (.getfield 42, 3) := by decide +kernel
theorem dX3_timesTaken_11 : decode cX3_timesTaken 11 = .ok (.if_icmp .ge 28, 3) := by decide +kernel
theorem dX3_timesTaken_14 : decode cX3_timesTaken 14 = .ok (.iload_n 3, 1) := by decide +kernel
theorem dX3_timesTaken_15 : decode cX3_timesTaken 15 = .ok (.aload_n 1, 1) := by decide +kernel
theorem dX3_timesTaken_16 : decode cX3_timesTaken 16 = .ok (.iload 4, 2) := by decide +kernel
theorem dX3_timesTaken_18 : decode cX3_timesTaken 18 = .ok (.iaload, 1) := by decide +kernel
theorem dX3_timesTaken_19 : decode cX3_timesTaken 19 = .ok (.iload_n 2, 1) := by decide +kernel
theorem dX3_timesTaken_20 : decode cX3_timesTaken 20 = .ok (.if_icmp .ne 7, 3) := by decide +kernel
theorem dX3_timesTaken_23 : decode cX3_timesTaken 23 = .ok (.iconst 1, 1) := by decide +kernel
theorem dX3_timesTaken_24 : decode cX3_timesTaken 24 = .ok (.goto 4, 3) := by decide +kernel
theorem dX3_timesTaken_27 : decode cX3_timesTaken 27 = .ok (.iconst 0, 1) := by decide +kernel
theorem dX3_timesTaken_28 : decode cX3_timesTaken 28 = .ok (.invokestatic 102, 3) := by decide +kernel
theorem dX3_timesTaken_31 : decode cX3_timesTaken 31 = .ok (.iadd, 1) := by decide +kernel
theorem dX3_timesTaken_32 : decode cX3_timesTaken 32 = .ok (.istore_n 3, 1) := by decide +kernel
theorem dX3_timesTaken_33 : decode cX3_timesTaken 33 = .ok (.iinc 4 1, 3) := by decide +kernel
theorem dX3_timesTaken_36 : decode cX3_timesTaken 36 = .ok (.goto (-31), 3) := by decide +kernel
theorem dX3_timesTaken_39 : decode cX3_timesTaken 39 = .ok (.iload_n 3, 1) := by decide +kernel
theorem dX3_timesTaken_40 : decode cX3_timesTaken 40 = .ok (.ireturn, 1) := by decide +kernel
theorem dX3_roundOf_0 : decode cX3_roundOf 0 = .ok (.aload_n 1, 1) := by decide +kernel
theorem dX3_roundOf_1 : decode cX3_roundOf 1 = .ok (.iload_n 2, 1) := by decide +kernel
theorem dX3_roundOf_2 : decode cX3_roundOf 2 = .ok (.iaload, 1) := by decide +kernel
theorem dX3_roundOf_3 : decode cX3_roundOf 3 = .ok (.istore_n 3, 1) := by decide +kernel
theorem dX3_roundOf_4 : decode cX3_roundOf 4 = .ok (.iconst 1, 1) := by decide +kernel
theorem dX3_roundOf_5 : decode cX3_roundOf 5 = .ok (.istore 4, 2) := by decide +kernel
theorem dX3_roundOf_7 : decode cX3_roundOf 7 = .ok (.iload_n 3, 1) := by decide +kernel
theorem dX3_roundOf_8 : decode cX3_roundOf 8 = .ok (.iload_n 2, 1) := by decide +kernel
theorem dX3_roundOf_9 : decode cX3_roundOf 9 = .ok (.if_icmp .eq 22, 3) := by decide +kernel
theorem dX3_roundOf_12 : decode cX3_roundOf 12 = .ok (.iload 4, 2) := by decide +kernel
theorem dX3_roundOf_14 : decode cX3_roundOf 14 = .ok (.aload_n 0, 1) := by decide +kernel
theorem dX3_roundOf_15 : decode cX3_roundOf 15 = .ok (.getfield 42, 3) := by decide +kernel
theorem dX3_roundOf_18 : decode cX3_roundOf 18 = .ok (.if_icmp .ge 13, 3) := by decide +kernel
theorem dX3_roundOf_21 : decode cX3_roundOf 21 = .ok (.aload_n 1, 1) := by decide +kernel
theorem dX3_roundOf_22 : decode cX3_roundOf 22 = .ok (.iload_n 3, 1) := by decide +kernel
theorem dX3_roundOf_23 : decode cX3_roundOf 23 = .ok (.iaload, 1) := by decide +kernel
theorem dX3_roundOf_24 : decode cX3_roundOf 24 = .ok (.istore_n 3, 1) := by decide +kernel
theorem dX3_roundOf_25 : decode cX3_roundOf 25 = .ok (.iinc 4 1, 3) := by decide +kernel
theorem dX3_roundOf_28 : decode cX3_roundOf 28 = .ok (.goto (-21), 3) := by decide +kernel
theorem dX3_roundOf_31 : decode cX3_roundOf 31 = .ok (.iload 4, 2) := by decide +kernel
theorem dX3_roundOf_33 : decode cX3_roundOf 33 = .ok (.ireturn, 1) := by decide +kernel
theorem dX3_leastCommonMultiple_0 : decode cX3_leastCommonMultiple 0 = .ok (.iload_n 0, 1) := by decide +kernel
theorem dX3_leastCommonMultiple_1 : decode cX3_leastCommonMultiple 1 = .ok (.istore_n 2, 1) := by decide +kernel
theorem dX3_leastCommonMultiple_2 : decode cX3_leastCommonMultiple 2 = .ok (.iconst 1, 1) := by decide +kernel
theorem dX3_leastCommonMultiple_3 : decode cX3_leastCommonMultiple 3 = .ok (.istore_n 3, 1) := by decide +kernel
theorem dX3_leastCommonMultiple_4 : decode cX3_leastCommonMultiple 4 = .ok (.iload_n 3, 1) := by decide +kernel
theorem dX3_leastCommonMultiple_5 : decode cX3_leastCommonMultiple 5 = .ok (.iload_n 1, 1) := by decide +kernel
theorem dX3_leastCommonMultiple_6 : decode cX3_leastCommonMultiple 6 = .ok (.if_icmp .ge 19, 3) := by decide +kernel
theorem dX3_leastCommonMultiple_9 : decode cX3_leastCommonMultiple 9 = .ok (.iload_n 2, 1) := by decide +kernel
theorem dX3_leastCommonMultiple_10 : decode cX3_leastCommonMultiple 10 = .ok (.iload_n 1, 1) := by decide +kernel
theorem dX3_leastCommonMultiple_11 : decode cX3_leastCommonMultiple 11 = .ok (.irem, 1) := by decide +kernel
theorem dX3_leastCommonMultiple_12 : decode cX3_leastCommonMultiple 12 = .ok (.ifCond .eq 13, 3) := by decide +kernel
theorem dX3_leastCommonMultiple_15 : decode cX3_leastCommonMultiple 15 = .ok (.iload_n 2, 1) := by decide +kernel
theorem dX3_leastCommonMultiple_16 : decode cX3_leastCommonMultiple 16 = .ok (.iload_n 0, 1) := by decide +kernel
theorem dX3_leastCommonMultiple_17 : decode cX3_leastCommonMultiple 17 = .ok (.iadd, 1) := by decide +kernel
theorem dX3_leastCommonMultiple_18 : decode cX3_leastCommonMultiple 18 = .ok (.istore_n 2, 1) := by decide +kernel
theorem dX3_leastCommonMultiple_19 : decode cX3_leastCommonMultiple 19 = .ok (.iinc 3 1, 3) := by decide +kernel
theorem dX3_leastCommonMultiple_22 : decode cX3_leastCommonMultiple 22 = .ok (.goto (-18), 3) := by decide +kernel
theorem dX3_leastCommonMultiple_25 : decode cX3_leastCommonMultiple 25 = .ok (.iload_n 2, 1) := by decide +kernel
theorem dX3_leastCommonMultiple_26 : decode cX3_leastCommonMultiple 26 = .ok (.ireturn, 1) := by decide +kernel
theorem dX3_differenceAt_0 : decode cX3_differenceAt 0 = .ok (.aload_n 0, 1) := by decide +kernel
theorem dX3_differenceAt_1 : decode cX3_differenceAt 1 = .ok (.getfield 49, 3) := by decide +kernel
theorem dX3_differenceAt_4 : decode cX3_differenceAt 4 = .ok (.aload_n 1, 1) := by decide +kernel
theorem dX3_differenceAt_5 : decode cX3_differenceAt 5 = .ok (.aload_n 0, 1) := by decide +kernel
theorem dX3_differenceAt_6 : decode cX3_differenceAt 6 = .ok (.getfield 49, 3) := by decide +kernel
theorem dX3_differenceAt_9 : decode cX3_differenceAt 9 = .ok (.iload_n 3, 1) := by decide +kernel
theorem dX3_differenceAt_10 : decode cX3_differenceAt 10 = .ok (.iload_n 2, 1) := by decide +kernel
theorem dX3_differenceAt_11 : decode cX3_differenceAt 11 = .ok (.invokevirtual 53, 3) := by decide +kernel
theorem dX3_differenceAt_14 : decode cX3_differenceAt 14 = .ok (.iaload, 1) := by decide +kernel
theorem dX3_differenceAt_15 : decode cX3_differenceAt 15 = .ok (.aload_n 1, 1) := by decide +kernel
theorem dX3_differenceAt_16 : decode cX3_differenceAt 16 = .ok (.iload_n 3, 1) := by decide +kernel
theorem dX3_differenceAt_17 : decode cX3_differenceAt 17 = .ok (.iaload, 1) := by decide +kernel
theorem dX3_differenceAt_18 : decode cX3_differenceAt 18 = .ok (.invokevirtual 71, 3) := by decide +kernel
theorem dX3_differenceAt_21 : decode cX3_differenceAt 21 = .ok (.ireturn, 1) := by decide +kernel
theorem dX3_greatestSpread_0 : decode cX3_greatestSpread 0 = .ok (.iconst 0, 1) := by decide +kernel
theorem dX3_greatestSpread_1 : decode cX3_greatestSpread 1 = .ok (.istore_n 2, 1) := by decide +kernel
theorem dX3_greatestSpread_2 : decode cX3_greatestSpread 2 = .ok (.iconst 1, 1) := by decide +kernel
theorem dX3_greatestSpread_3 : decode cX3_greatestSpread 3 = .ok (.istore_n 3, 1) := by decide +kernel
theorem dX3_greatestSpread_4 : decode cX3_greatestSpread 4 = .ok (.iload_n 3, 1) := by decide +kernel
theorem dX3_greatestSpread_5 : decode cX3_greatestSpread 5 = .ok (.aload_n 0, 1) := by decide +kernel
theorem dX3_greatestSpread_6 : decode cX3_greatestSpread 6 = .ok (.getfield 42, 3) := by decide +kernel
theorem dX3_greatestSpread_9 : decode cX3_greatestSpread 9 = .ok (.if_icmp .ge 68, 3) := by decide +kernel
theorem dX3_greatestSpread_12 : decode cX3_greatestSpread 12 = .ok (.aload_n 0, 1) := by decide +kernel
theorem dX3_greatestSpread_13 : decode cX3_greatestSpread 13 = .ok (.getfield 24, 3) := by decide +kernel
theorem dX3_greatestSpread_16 : decode cX3_greatestSpread 16 = .ok (.iconst 0, 1) := by decide +kernel
theorem dX3_greatestSpread_17 : decode cX3_greatestSpread 17 = .ok (.invokestatic 106, 3) := by decide +kernel
theorem dX3_greatestSpread_20 : decode cX3_greatestSpread 20 = .ok (.iconst 0, 1) := by decide +kernel
theorem dX3_greatestSpread_21 : decode cX3_greatestSpread 21 = .ok (.istore 4, 2) := by decide +kernel
theorem dX3_greatestSpread_23 : decode cX3_greatestSpread 23 = .ok (.iload 4, 2) := by decide +kernel
theorem dX3_greatestSpread_25 : decode cX3_greatestSpread 25 = .ok (.aload_n 0, 1) := by decide +kernel
theorem dX3_greatestSpread_26 : decode cX3_greatestSpread 26 = .ok (.getfield 42, 3) := by decide +kernel
theorem dX3_greatestSpread_29 : decode cX3_greatestSpread 29 = .ok (.if_icmp .ge 42, 3) := by decide +kernel
theorem dX3_greatestSpread_32 : decode cX3_greatestSpread 32 = .ok (.aload_n 0, 1) := by decide +kernel
theorem dX3_greatestSpread_33 : decode cX3_greatestSpread 33 = .ok (.aload_n 1, 1) := by decide +kernel
theorem dX3_greatestSpread_34 : decode cX3_greatestSpread 34 = .ok (.iload_n 3, 1) := by decide +kernel
theorem dX3_greatestSpread_35 : decode cX3_greatestSpread 35 = .ok (.iload 4, 2) := by decide +kernel
theorem dX3_greatestSpread_37 : decode cX3_greatestSpread 37 = .ok (.invokevirtual 125, 3) := by decide +kernel
theorem dX3_greatestSpread_40 : decode cX3_greatestSpread 40 = .ok (.istore 5, 2) := by decide +kernel
theorem dX3_greatestSpread_42 : decode cX3_greatestSpread 42 = .ok (.aload_n 0, 1) := by decide +kernel
theorem dX3_greatestSpread_43 : decode cX3_greatestSpread 43 = .ok (.getfield 24, 3) := by decide +kernel
theorem dX3_greatestSpread_46 : decode cX3_greatestSpread 46 = .ok (.iload 5, 2) := by decide +kernel
theorem dX3_greatestSpread_48 : decode cX3_greatestSpread 48 = .ok (.dup2, 1) := by decide +kernel
theorem dX3_greatestSpread_49 : decode cX3_greatestSpread 49 = .ok (.iaload, 1) := by decide +kernel
theorem dX3_greatestSpread_50 : decode cX3_greatestSpread 50 = .ok (.iconst 1, 1) := by decide +kernel
theorem dX3_greatestSpread_51 : decode cX3_greatestSpread 51 = .ok (.iadd, 1) := by decide +kernel
theorem dX3_greatestSpread_52 : decode cX3_greatestSpread 52 = .ok (.iastore, 1) := by decide +kernel
theorem dX3_greatestSpread_53 : decode cX3_greatestSpread 53 = .ok (.iload_n 2, 1) := by decide +kernel
theorem dX3_greatestSpread_54 : decode cX3_greatestSpread 54 = .ok (.aload_n 0, 1) := by decide +kernel
theorem dX3_greatestSpread_55 : decode cX3_greatestSpread 55 = .ok (.getfield 24, 3) := by decide +kernel
theorem dX3_greatestSpread_58 : decode cX3_greatestSpread 58 = .ok (.iload 5, 2) := by decide +kernel
theorem dX3_greatestSpread_60 : decode cX3_greatestSpread 60 = .ok (.iaload, 1) := by decide +kernel
theorem dX3_greatestSpread_61 : decode cX3_greatestSpread 61 = .ok (.invokestatic 145, 3) := by decide +kernel
theorem dX3_greatestSpread_64 : decode cX3_greatestSpread 64 = .ok (.istore_n 2, 1) := by decide +kernel
theorem dX3_greatestSpread_65 : decode cX3_greatestSpread 65 = .ok (.iinc 4 1, 3) := by decide +kernel
theorem dX3_greatestSpread_68 : decode cX3_greatestSpread 68 = .ok (.goto (-45), 3) := by decide +kernel
theorem dX3_greatestSpread_71 : decode cX3_greatestSpread 71 = .ok (.iinc 3 1, 3) := by decide +kernel
theorem dX3_greatestSpread_74 : decode cX3_greatestSpread 74 = .ok (.goto (-70), 3) := by decide +kernel
theorem dX3_greatestSpread_77 : decode cX3_greatestSpread 77 = .ok (.iload_n 2, 1) := by decide +kernel
theorem dX3_greatestSpread_78 : decode cX3_greatestSpread 78 = .ok (.ireturn, 1) := by decide +kernel
theorem dX3_walkOf_0 : decode cX3_walkOf 0 = .ok (.iconst 0, 1) := by decide +kernel
theorem dX3_walkOf_1 : decode cX3_walkOf 1 = .ok (.istore 4, 2) := by decide +kernel
theorem dX3_walkOf_3 : decode cX3_walkOf 3 = .ok (.iconst 0, 1) := by decide +kernel
theorem dX3_walkOf_4 : decode cX3_walkOf 4 = .ok (.istore 5, 2) := by decide +kernel
theorem dX3_walkOf_6 : decode cX3_walkOf 6 = .ok (.iload 5, 2) := by decide +kernel
theorem dX3_walkOf_8 : decode cX3_walkOf 8 = .ok (.aload_n 0, 1) := by decide +kernel
theorem dX3_walkOf_9 : decode cX3_walkOf 9 = .ok (.getfield 42, 3) := by decide +kernel
theorem dX3_walkOf_12 : decode cX3_walkOf 12 = .ok (.if_icmp .ge 42, 3) := by decide +kernel
theorem dX3_walkOf_15 : decode cX3_walkOf 15 = .ok (.iload_n 2, 1) := by decide +kernel
theorem dX3_walkOf_16 : decode cX3_walkOf 16 = .ok (.iload 5, 2) := by decide +kernel
theorem dX3_walkOf_18 : decode cX3_walkOf 18 = .ok (.iand, 1) := by decide +kernel
theorem dX3_walkOf_19 : decode cX3_walkOf 19 = .ok (.iload_n 3, 1) := by decide +kernel
theorem dX3_walkOf_20 : decode cX3_walkOf 20 = .ok (.aload_n 1, 1) := by decide +kernel
theorem dX3_walkOf_21 : decode cX3_walkOf 21 = .ok (.iload 5, 2) := by decide +kernel
theorem dX3_walkOf_23 : decode cX3_walkOf 23 = .ok (.iaload, 1) := by decide +kernel
theorem dX3_walkOf_24 : decode cX3_walkOf 24 = .ok (.iand, 1) := by decide +kernel
theorem dX3_walkOf_25 : decode cX3_walkOf 25 = .ok (.ixor, 1) := by decide +kernel
theorem dX3_walkOf_26 : decode cX3_walkOf 26 = .ok (.invokestatic 196, 3) := by decide +kernel
theorem dX3_walkOf_29 : decode cX3_walkOf 29 = .ok (.istore 6, 2) := by decide +kernel
theorem dX3_walkOf_31 : decode cX3_walkOf 31 = .ok (.iload 4, 2) := by decide +kernel
theorem dX3_walkOf_33 : decode cX3_walkOf 33 = .ok (.iload 6, 2) := by decide +kernel
theorem dX3_walkOf_35 : decode cX3_walkOf 35 = .ok (.iconst 1, 1) := by decide +kernel
theorem dX3_walkOf_36 : decode cX3_walkOf 36 = .ok (.iand, 1) := by decide +kernel
theorem dX3_walkOf_37 : decode cX3_walkOf 37 = .ok (.ifCond .ne 7, 3) := by decide +kernel
theorem dX3_walkOf_40 : decode cX3_walkOf 40 = .ok (.iconst 1, 1) := by decide +kernel
theorem dX3_walkOf_41 : decode cX3_walkOf 41 = .ok (.goto 4, 3) := by decide +kernel
theorem dX3_walkOf_44 : decode cX3_walkOf 44 = .ok (.iconst (-1), 1) := by decide +kernel
theorem dX3_walkOf_45 : decode cX3_walkOf 45 = .ok (.iadd, 1) := by decide +kernel
theorem dX3_walkOf_46 : decode cX3_walkOf 46 = .ok (.istore 4, 2) := by decide +kernel
theorem dX3_walkOf_48 : decode cX3_walkOf 48 = .ok (.iinc 5 1, 3) := by decide +kernel
theorem dX3_walkOf_51 : decode cX3_walkOf 51 = .ok (.goto (-45), 3) := by decide +kernel
theorem dX3_walkOf_54 : decode cX3_walkOf 54 = .ok (.iload 4, 2) := by decide +kernel
theorem dX3_walkOf_56 : decode cX3_walkOf 56 = .ok (.ireturn, 1) := by decide +kernel
theorem dX3_dressedAt_0 : decode cX3_dressedAt 0 = .ok (.aload_n 0, 1) := by decide +kernel
theorem dX3_dressedAt_1 : decode cX3_dressedAt 1 = .ok (.getfield 49, 3) := by decide +kernel
theorem dX3_dressedAt_4 : decode cX3_dressedAt 4 = .ok (.iload_n 2, 1) := by decide +kernel
theorem dX3_dressedAt_5 : decode cX3_dressedAt 5 = .ok (.aload_n 1, 1) := by decide +kernel
theorem dX3_dressedAt_6 : decode cX3_dressedAt 6 = .ok (.aload_n 0, 1) := by decide +kernel
theorem dX3_dressedAt_7 : decode cX3_dressedAt 7 = .ok (.getfield 49, 3) := by decide +kernel
theorem dX3_dressedAt_10 : decode cX3_dressedAt 10 = .ok (.aload_n 0, 1) := by decide +kernel
theorem dX3_dressedAt_11 : decode cX3_dressedAt 11 = .ok (.getfield 49, 3) := by decide +kernel
theorem dX3_dressedAt_14 : decode cX3_dressedAt 14 = .ok (.iload_n 3, 1) := by decide +kernel
theorem dX3_dressedAt_15 : decode cX3_dressedAt 15 = .ok (.iload 5, 2) := by decide +kernel
theorem dX3_dressedAt_17 : decode cX3_dressedAt 17 = .ok (.invokevirtual 57, 3) := by decide +kernel
theorem dX3_dressedAt_20 : decode cX3_dressedAt 20 = .ok (.iload 4, 2) := by decide +kernel
theorem dX3_dressedAt_22 : decode cX3_dressedAt 22 = .ok (.invokevirtual 53, 3) := by decide +kernel
theorem dX3_dressedAt_25 : decode cX3_dressedAt 25 = .ok (.iaload, 1) := by decide +kernel
theorem dX3_dressedAt_26 : decode cX3_dressedAt 26 = .ok (.invokevirtual 57, 3) := by decide +kernel
theorem dX3_dressedAt_29 : decode cX3_dressedAt 29 = .ok (.ireturn, 1) := by decide +kernel
theorem dX3_isDress_0 : decode cX3_isDress 0 = .ok (.aload_n 0, 1) := by decide +kernel
theorem dX3_isDress_1 : decode cX3_isDress 1 = .ok (.getfield 49, 3) := by decide +kernel
theorem dX3_isDress_4 : decode cX3_isDress 4 = .ok (.aload_n 2, 1) := by decide +kernel
theorem dX3_isDress_5 : decode cX3_isDress 5 = .ok (.iconst 0, 1) := by decide +kernel
theorem dX3_isDress_6 : decode cX3_isDress 6 = .ok (.iaload, 1) := by decide +kernel
theorem dX3_isDress_7 : decode cX3_isDress 7 = .ok (.aload_n 0, 1) := by decide +kernel
theorem dX3_isDress_8 : decode cX3_isDress 8 = .ok (.aload_n 1, 1) := by decide +kernel
theorem dX3_isDress_9 : decode cX3_isDress 9 = .ok (.iload_n 3, 1) := by decide +kernel
theorem dX3_isDress_10 : decode cX3_isDress 10 = .ok (.iload 4, 2) := by decide +kernel
theorem dX3_isDress_12 : decode cX3_isDress 12 = .ok (.iload 5, 2) := by decide +kernel
theorem dX3_isDress_14 : decode cX3_isDress 14 = .ok (.iconst 0, 1) := by decide +kernel
theorem dX3_isDress_15 : decode cX3_isDress 15 = .ok (.invokevirtual 201, 3) := by decide +kernel
theorem dX3_isDress_18 : decode cX3_isDress 18 = .ok (.invokevirtual 71, 3) := by decide +kernel
theorem dX3_isDress_21 : decode cX3_isDress 21 = .ok (.istore 6, 2) := by decide +kernel
theorem dX3_isDress_23 : decode cX3_isDress 23 = .ok (.iconst 1, 1) := by decide +kernel
theorem dX3_isDress_24 : decode cX3_isDress 24 = .ok (.istore 7, 2) := by decide +kernel
theorem dX3_isDress_26 : decode cX3_isDress 26 = .ok (.iload 7, 2) := by decide +kernel
theorem dX3_isDress_28 : decode cX3_isDress 28 = .ok (.aload_n 0, 1) := by decide +kernel
theorem dX3_isDress_29 : decode cX3_isDress 29 = .ok (.getfield 42, 3) := by decide +kernel
theorem dX3_isDress_32 : decode cX3_isDress 32 = .ok (.if_icmp .ge 39, 3) := by decide +kernel
theorem dX3_isDress_35 : decode cX3_isDress 35 = .ok (.aload_n 0, 1) := by decide +kernel
theorem dX3_isDress_36 : decode cX3_isDress 36 = .ok (.getfield 49, 3) := by decide +kernel
theorem dX3_isDress_39 : decode cX3_isDress 39 = .ok (.aload_n 0, 1) := by decide +kernel
theorem dX3_isDress_40 : decode cX3_isDress 40 = .ok (.aload_n 1, 1) := by decide +kernel
theorem dX3_isDress_41 : decode cX3_isDress 41 = .ok (.iload_n 3, 1) := by decide +kernel
theorem dX3_isDress_42 : decode cX3_isDress 42 = .ok (.iload 4, 2) := by decide +kernel
theorem dX3_isDress_44 : decode cX3_isDress 44 = .ok (.iload 5, 2) := by decide +kernel
theorem dX3_isDress_46 : decode cX3_isDress 46 = .ok (.iload 7, 2) := by decide +kernel
theorem dX3_isDress_48 : decode cX3_isDress 48 = .ok (.invokevirtual 201, 3) := by decide +kernel
theorem dX3_isDress_51 : decode cX3_isDress 51 = .ok (.iload 6, 2) := by decide +kernel
theorem dX3_isDress_53 : decode cX3_isDress 53 = .ok (.invokevirtual 53, 3) := by decide +kernel
theorem dX3_isDress_56 : decode cX3_isDress 56 = .ok (.aload_n 2, 1) := by decide +kernel
theorem dX3_isDress_57 : decode cX3_isDress 57 = .ok (.iload 7, 2) := by decide +kernel
theorem dX3_isDress_59 : decode cX3_isDress 59 = .ok (.iaload, 1) := by decide +kernel
theorem dX3_isDress_60 : decode cX3_isDress 60 = .ok (.if_icmp .eq 5, 3) := by decide +kernel
theorem dX3_isDress_63 : decode cX3_isDress 63 = .ok (.iconst 0, 1) := by decide +kernel
theorem dX3_isDress_64 : decode cX3_isDress 64 = .ok (.ireturn, 1) := by decide +kernel
theorem dX3_isDress_65 : decode cX3_isDress 65 = .ok (.iinc 7 1, 3) := by decide +kernel
theorem dX3_isDress_68 : decode cX3_isDress 68 = .ok (.goto (-42), 3) := by decide +kernel
theorem dX3_isDress_71 : decode cX3_isDress 71 = .ok (.iconst 1, 1) := by decide +kernel
theorem dX3_isDress_72 : decode cX3_isDress 72 = .ok (.ireturn, 1) := by decide +kernel
theorem dX3_keepIfLess_0 : decode cX3_keepIfLess 0 = .ok (.aload_n 0, 1) := by decide +kernel
theorem dX3_keepIfLess_1 : decode cX3_keepIfLess 1 = .ok (.getfield 49, 3) := by decide +kernel
theorem dX3_keepIfLess_4 : decode cX3_keepIfLess 4 = .ok (.iconst 0, 1) := by decide +kernel
theorem dX3_keepIfLess_5 : decode cX3_keepIfLess 5 = .ok (.aload_n 0, 1) := by decide +kernel
theorem dX3_keepIfLess_6 : decode cX3_keepIfLess 6 = .ok (.aload_n 1, 1) := by decide +kernel
theorem dX3_keepIfLess_7 : decode cX3_keepIfLess 7 = .ok (.iload_n 2, 1) := by decide +kernel
theorem dX3_keepIfLess_8 : decode cX3_keepIfLess 8 = .ok (.iload_n 3, 1) := by decide +kernel
theorem dX3_keepIfLess_9 : decode cX3_keepIfLess 9 = .ok (.iload 4, 2) := by decide +kernel
theorem dX3_keepIfLess_11 : decode cX3_keepIfLess 11 = .ok (.iconst 0, 1) := by decide +kernel
theorem dX3_keepIfLess_12 : decode cX3_keepIfLess 12 = .ok (.invokevirtual 201, 3) := by decide +kernel
theorem dX3_keepIfLess_15 : decode cX3_keepIfLess 15 = .ok (.invokevirtual 71, 3) := by decide +kernel
theorem dX3_keepIfLess_18 : decode cX3_keepIfLess 18 = .ok (.istore 5, 2) := by decide +kernel
theorem dX3_keepIfLess_20 : decode cX3_keepIfLess 20 = .ok (.iconst 0, 1) := by decide +kernel
theorem dX3_keepIfLess_21 : decode cX3_keepIfLess 21 = .ok (.istore 6, 2) := by decide +kernel
theorem dX3_keepIfLess_23 : decode cX3_keepIfLess 23 = .ok (.iconst 0, 1) := by decide +kernel
theorem dX3_keepIfLess_24 : decode cX3_keepIfLess 24 = .ok (.istore 7, 2) := by decide +kernel
theorem dX3_keepIfLess_26 : decode cX3_keepIfLess 26 = .ok (.iload 7, 2) := by decide +kernel
theorem dX3_keepIfLess_28 : decode cX3_keepIfLess 28 = .ok (.aload_n 0, 1) := by decide +kernel
theorem dX3_keepIfLess_29 : decode cX3_keepIfLess 29 = .ok (.getfield 42, 3) := by decide +kernel
theorem dX3_keepIfLess_32 : decode cX3_keepIfLess 32 = .ok (.if_icmp .ge 82, 3) := by decide +kernel
theorem dX3_keepIfLess_35 : decode cX3_keepIfLess 35 = .ok (.aload_n 0, 1) := by decide +kernel
theorem dX3_keepIfLess_36 : decode cX3_keepIfLess 36 = .ok (.getfield 49, 3) := by decide +kernel
theorem dX3_keepIfLess_39 : decode cX3_keepIfLess 39 = .ok (.aload_n 0, 1) := by decide +kernel
theorem dX3_keepIfLess_40 : decode cX3_keepIfLess 40 = .ok (.aload_n 1, 1) := by decide +kernel
theorem dX3_keepIfLess_41 : decode cX3_keepIfLess 41 = .ok (.iload_n 2, 1) := by decide +kernel
theorem dX3_keepIfLess_42 : decode cX3_keepIfLess 42 = .ok (.iload_n 3, 1) := by decide +kernel
theorem dX3_keepIfLess_43 : decode cX3_keepIfLess 43 = .ok (.iload 4, 2) := by decide +kernel
theorem dX3_keepIfLess_45 : decode cX3_keepIfLess 45 = .ok (.iload 7, 2) := by decide +kernel
theorem dX3_keepIfLess_47 : decode cX3_keepIfLess 47 = .ok (.invokevirtual 201, 3) := by decide +kernel
theorem dX3_keepIfLess_50 : decode cX3_keepIfLess 50 = .ok (.iload 5, 2) := by decide +kernel
theorem dX3_keepIfLess_52 : decode cX3_keepIfLess 52 = .ok (.invokevirtual 53, 3) := by decide +kernel
theorem dX3_keepIfLess_55 : decode cX3_keepIfLess 55 = .ok (.istore 8, 2) := by decide +kernel
theorem dX3_keepIfLess_57 : decode cX3_keepIfLess 57 = .ok (.iload 6, 2) := by decide +kernel
theorem dX3_keepIfLess_59 : decode cX3_keepIfLess 59 = .ok (.ifCond .ne 16, 3) := by decide +kernel
theorem dX3_keepIfLess_62 : decode cX3_keepIfLess 62 = .ok (.iload 8, 2) := by decide +kernel
theorem dX3_keepIfLess_64 : decode cX3_keepIfLess 64 = .ok (.aload_n 0, 1) := by decide +kernel
theorem dX3_keepIfLess_65 : decode cX3_keepIfLess 65 = .ok (.getfield 20, 3) := by decide +kernel
theorem dX3_keepIfLess_68 : decode cX3_keepIfLess 68 = .ok (.iload 7, 2) := by decide +kernel
theorem dX3_keepIfLess_70 : decode cX3_keepIfLess 70 = .ok (.iaload, 1) := by decide +kernel
theorem dX3_keepIfLess_71 : decode cX3_keepIfLess 71 = .ok (.if_icmp .le 4, 3) := by decide +kernel
theorem dX3_keepIfLess_74 : decode cX3_keepIfLess 74 = .ok (.return_, 1) := by decide +kernel
theorem dX3_keepIfLess_75 : decode cX3_keepIfLess 75 = .ok (.iload 6, 2) := by decide +kernel
theorem dX3_keepIfLess_77 : decode cX3_keepIfLess 77 = .ok (.ifCond .ne 15, 3) := by decide +kernel
theorem dX3_keepIfLess_80 : decode cX3_keepIfLess 80 = .ok (.iload 8, 2) := by decide +kernel
theorem dX3_keepIfLess_82 : decode cX3_keepIfLess 82 = .ok (.aload_n 0, 1) := by decide +kernel
theorem dX3_keepIfLess_83 : decode cX3_keepIfLess 83 = .ok (.getfield 20, 3) := by decide +kernel
theorem dX3_keepIfLess_86 : decode cX3_keepIfLess 86 = .ok (.iload 7, 2) := by decide +kernel
theorem dX3_keepIfLess_88 : decode cX3_keepIfLess 88 = .ok (.iaload, 1) := by decide +kernel
theorem dX3_keepIfLess_89 : decode cX3_keepIfLess 89 = .ok (.if_icmp .ge 7, 3) := by decide +kernel
theorem dX3_keepIfLess_92 : decode cX3_keepIfLess 92 = .ok (.iconst 1, 1) := by decide +kernel
