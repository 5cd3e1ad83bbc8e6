theorem dX0_init_0 : decode cX0_init 0 = .ok (.aload_n 0, 1) := by decide +kernel
theorem dX0_init_1 : decode cX0_init 1 = .ok (.invokespecial 3, 3) := by decide +kernel
theorem dX0_init_4 : decode cX0_init 4 = .ok (.aload_n 0, 1) := by decide +kernel
theorem dX0_init_5 : decode cX0_init 5 = .ok (.bipush 6, 2) := by decide +kernel
theorem dX0_init_7 : decode cX0_init 7 = .ok (.newarray .int, 2) := by decide +kernel
theorem dX0_init_9 : decode cX0_init 9 = .ok (.putfield 9, 3) := by decide +kernel
theorem dX0_init_12 : decode cX0_init 12 = .ok (.aload_n 0, 1) := by decide +kernel
theorem dX0_init_13 : decode cX0_init 13 = .ok (.bipush 6, 2) := by decide +kernel
theorem dX0_init_15 : decode cX0_init 15 = .ok (.anewarray 15, 3) := by decide +kernel
theorem dX0_init_18 : decode cX0_init 18 = .ok (.putfield 17, 3) := by decide +kernel
theorem dX0_init_21 : decode cX0_init 21 = .ok (.aload_n 0, 1) := by decide +kernel
theorem dX0_init_22 : decode cX0_init 22 = .ok (.iload_n 1, 1) := by decide +kernel
theorem dX0_init_23 : decode cX0_init 23 = .ok (.putfield 21, 3) := by decide +kernel
theorem dX0_init_26 : decode cX0_init 26 = .ok (.aload_n 0, 1) := by decide +kernel
theorem dX0_init_27 : decode cX0_init 27 = .ok (.iload_n 1, 1) := by decide +kernel
theorem dX0_init_28 : decode cX0_init 28 = .ok (.invokestatic 25, 3) := by decide +kernel
theorem dX0_init_31 : decode cX0_init 31 = .ok (.putfield 29, 3) := by decide +kernel
theorem dX0_init_34 : decode cX0_init 34 = .ok (.aload_n 0, 1) := by decide +kernel
theorem dX0_init_35 : decode cX0_init 35 = .ok (.iload_n 1, 1) := by decide +kernel
theorem dX0_init_36 : decode cX0_init 36 = .ok (.iload_n 1, 1) := by decide +kernel
theorem dX0_init_37 : decode cX0_init 37 = .ok (.imul, 1) := by decide +kernel
theorem dX0_init_38 : decode cX0_init 38 = .ok (.newarray .int, 2) := by decide +kernel
theorem dX0_init_40 : decode cX0_init 40 = .ok (.putfield 32, 3) := by decide +kernel
theorem dX0_init_43 : decode cX0_init 43 = .ok (.aload_n 0, 1) := by decide +kernel
theorem dX0_init_44 : decode cX0_init 44 = .ok (.iload_n 1, 1) := by decide +kernel
theorem dX0_init_45 : decode cX0_init 45 = .ok (.iload_n 1, 1) := by decide +kernel
theorem dX0_init_46 : decode cX0_init 46 = .ok (.imul, 1) := by decide +kernel
theorem dX0_init_47 : decode cX0_init 47 = .ok (.newarray .int, 2) := by decide +kernel
theorem dX0_init_49 : decode cX0_init 49 = .ok (.putfield 35, 3) := by decide +kernel
theorem dX0_init_52 : decode cX0_init 52 = .ok (.aload_n 0, 1) := by decide +kernel
theorem dX0_init_53 : decode cX0_init 53 = .ok (.iload_n 1, 1) := by decide +kernel
theorem dX0_init_54 : decode cX0_init 54 = .ok (.iload_n 1, 1) := by decide +kernel
theorem dX0_init_55 : decode cX0_init 55 = .ok (.imul, 1) := by decide +kernel
theorem dX0_init_56 : decode cX0_init 56 = .ok (.newarray .int, 2) := by decide +kernel
theorem dX0_init_58 : decode cX0_init 58 = .ok (.putfield 38, 3) := by decide +kernel
theorem dX0_init_61 : decode cX0_init 61 = .ok (.aload_n 0, 1) := by decide +kernel
theorem dX0_init_62 : decode cX0_init 62 = .ok (.iload_n 1, 1) := by decide +kernel
theorem dX0_init_63 : decode cX0_init 63 = .ok (.newarray .int, 2) := by decide +kernel
theorem dX0_init_65 : decode cX0_init 65 = .ok (.putfield 41, 3) := by decide +kernel
theorem dX0_init_68 : decode cX0_init 68 = .ok (.aload_n 0, 1) := by decide +kernel
theorem dX0_init_69 : decode cX0_init 69 = .ok (.iload_n 1, 1) := by decide +kernel
theorem dX0_init_70 : decode cX0_init 70 = .ok (.newarray .int, 2) := by decide +kernel
theorem dX0_init_72 : decode cX0_init 72 = .ok (.putfield 44, 3) := by decide +kernel
theorem dX0_init_75 : decode cX0_init 75 = .ok (.aload_n 0, 1) := by decide +kernel
theorem dX0_init_76 : decode cX0_init 76 = .ok (.invokevirtual 47, 3) := by decide +kernel
theorem dX0_init_79 : decode cX0_init 79 = .ok (.aload_n 0, 1) := by decide +kernel
theorem dX0_init_80 : decode cX0_init 80 = .ok (.invokevirtual 50, 3) := by decide +kernel
theorem dX0_init_83 : decode cX0_init 83 = .ok (.aload_n 0, 1) := by decide +kernel
theorem dX0_init_84 : decode cX0_init 84 = .ok (.invokevirtual 53, 3) := by decide +kernel
theorem dX0_init_87 : decode cX0_init 87 = .ok (.return_, 1) := by decide +kernel
theorem dX0_sum_0 : decode cX0_sum 0 = .ok (.aload_n 0, 1) := by decide +kernel
theorem dX0_sum_1 : decode cX0_sum 1 = .ok (.getfield 32, 3) := by decide +kernel
theorem dX0_sum_4 : decode cX0_sum 4 = .ok (.iload_n 1, 1) := by decide +kernel
theorem dX0_sum_5 : decode cX0_sum 5 = .ok (.aload_n 0, 1) := by decide +kernel
theorem dX0_sum_6 : decode cX0_sum 6 = .ok (.getfield 21, 3) := by decide +kernel
theorem dX0_sum_9 : decode cX0_sum 9 = .ok (.imul, 1) := by decide +kernel
theorem dX0_sum_10 : decode cX0_sum 10 = .ok (.iload_n 2, 1) := by decide +kernel
theorem dX0_sum_11 : decode cX0_sum 11 = .ok (.iadd, 1) := by decide +kernel
theorem dX0_sum_12 : decode cX0_sum 12 = .ok (.iaload, 1) := by decide +kernel
theorem dX0_sum_13 : decode cX0_sum 13 = .ok (.ireturn, 1) := by decide +kernel
theorem dX0_less_0 : decode cX0_less 0 = .ok (.aload_n 0, 1) := by decide +kernel
theorem dX0_less_1 : decode cX0_less 1 = .ok (.getfield 32, 3) := by decide +kernel
theorem dX0_less_4 : decode cX0_less 4 = .ok (.iload_n 1, 1) := by decide +kernel
theorem dX0_less_5 : decode cX0_less 5 = .ok (.aload_n 0, 1) := by decide +kernel
theorem dX0_less_6 : decode cX0_less 6 = .ok (.getfield 21, 3) := by decide +kernel
theorem dX0_less_9 : decode cX0_less 9 = .ok (.imul, 1) := by decide +kernel
theorem dX0_less_10 : decode cX0_less 10 = .ok (.aload_n 0, 1) := by decide +kernel
theorem dX0_less_11 : decode cX0_less 11 = .ok (.getfield 41, 3) := by decide +kernel
theorem dX0_less_14 : decode cX0_less 14 = .ok (.iload_n 2, 1) := by decide +kernel
theorem dX0_less_15 : decode cX0_less 15 = .ok (.iaload, 1) := by decide +kernel
theorem dX0_less_16 : decode cX0_less 16 = .ok (.iadd, 1) := by decide +kernel
theorem dX0_less_17 : decode cX0_less 17 = .ok (.iaload, 1) := by decide +kernel
theorem dX0_less_18 : decode cX0_less 18 = .ok (.ireturn, 1) := by decide +kernel
theorem dX0_product_0 : decode cX0_product 0 = .ok (.aload_n 0, 1) := by decide +kernel
theorem dX0_product_1 : decode cX0_product 1 = .ok (.getfield 35, 3) := by decide +kernel
theorem dX0_product_4 : decode cX0_product 4 = .ok (.iload_n 1, 1) := by decide +kernel
theorem dX0_product_5 : decode cX0_product 5 = .ok (.aload_n 0, 1) := by decide +kernel
theorem dX0_product_6 : decode cX0_product 6 = .ok (.getfield 21, 3) := by decide +kernel
theorem dX0_product_9 : decode cX0_product 9 = .ok (.imul, 1) := by decide +kernel
theorem dX0_product_10 : decode cX0_product 10 = .ok (.iload_n 2, 1) := by decide +kernel
theorem dX0_product_11 : decode cX0_product 11 = .ok (.iadd, 1) := by decide +kernel
theorem dX0_product_12 : decode cX0_product 12 = .ok (.iaload, 1) := by decide +kernel
theorem dX0_product_13 : decode cX0_product 13 = .ok (.ireturn, 1) := by decide +kernel
theorem dX0_inverse_0 : decode cX0_inverse 0 = .ok (.aload_n 0, 1) := by decide +kernel
theorem dX0_inverse_1 : decode cX0_inverse 1 = .ok (.getfield 44, 3) := by decide +kernel
theorem dX0_inverse_4 : decode cX0_inverse 4 = .ok (.iload_n 1, 1) := by decide +kernel
theorem dX0_inverse_5 : decode cX0_inverse 5 = .ok (.iaload, 1) := by decide +kernel
theorem dX0_inverse_6 : decode cX0_inverse 6 = .ok (.ireturn, 1) := by decide +kernel
theorem dX0_raised_0 : decode cX0_raised 0 = .ok (.aload_n 0, 1) := by decide +kernel
theorem dX0_raised_1 : decode cX0_raised 1 = .ok (.getfield 38, 3) := by decide +kernel
theorem dX0_raised_4 : decode cX0_raised 4 = .ok (.iload_n 1, 1) := by decide +kernel
theorem dX0_raised_5 : decode cX0_raised 5 = .ok (.aload_n 0, 1) := by decide +kernel
theorem dX0_raised_6 : decode cX0_raised 6 = .ok (.getfield 21, 3) := by decide +kernel
theorem dX0_raised_9 : decode cX0_raised 9 = .ok (.imul, 1) := by decide +kernel
theorem dX0_raised_10 : decode cX0_raised 10 = .ok (.iload_n 2, 1) := by decide +kernel
theorem dX0_raised_11 : decode cX0_raised 11 = .ok (.aload_n 0, 1) := by decide +kernel
theorem dX0_raised_12 : decode cX0_raised 12 = .ok (.getfield 21, 3) := by decide +kernel
theorem dX0_raised_15 : decode cX0_raised 15 = .ok (.if_icmp .ge 7, 3) := by decide +kernel
theorem dX0_raised_18 : decode cX0_raised 18 = .ok (.iload_n 2, 1) := by decide +kernel
theorem dX0_raised_19 : decode cX0_raised 19 = .ok (.goto 15, 3) := by decide +kernel
theorem dX0_raised_22 : decode cX0_raised 22 = .ok (.iconst 1, 1) := by decide +kernel
theorem dX0_raised_23 : decode cX0_raised 23 = .ok (.iload_n 2, 1) := by decide +kernel
theorem dX0_raised_24 : decode cX0_raised 24 = .ok (.iconst 1, 1) := by decide +kernel
theorem dX0_raised_25 : decode cX0_raised 25 = .ok (.isub, 1) := by decide +kernel
theorem dX0_raised_26 : decode cX0_raised 26 = .ok (.aload_n 0, 1) := by decide +kernel
theorem dX0_raised_27 : decode cX0_raised 27 = .ok (.getfield 21, 3) := by decide +kernel
theorem dX0_raised_30 : decode cX0_raised 30 = .ok (.iconst 1, 1) := by decide +kernel
theorem dX0_raised_31 : decode cX0_raised 31 = .ok (.isub, 1) := by decide +kernel
theorem dX0_raised_32 : decode cX0_raised 32 = .ok (.irem, 1) := by decide +kernel
theorem dX0_raised_33 : decode cX0_raised 33 = .ok (.iadd, 1) := by decide +kernel
theorem dX0_raised_34 : decode cX0_raised 34 = .ok (.iadd, 1) := by decide +kernel
theorem dX0_raised_35 : decode cX0_raised 35 = .ok (.iaload, 1) := by decide +kernel
theorem dX0_raised_36 : decode cX0_raised 36 = .ok (.ireturn, 1) := by decide +kernel
theorem dX0_primeOf_0 : decode cX0_primeOf 0 = .ok (.iload_n 0, 1) := by decide +kernel
theorem dX0_primeOf_1 : decode cX0_primeOf 1 = .ok (.lookupswitch 47 #[(4, 43), (8, 43), (9, 45), (16, 43)], 43) := by decide +kernel
theorem dX0_primeOf_44 : decode cX0_primeOf 44 = .ok (.iconst 2, 1) := by decide +kernel
theorem dX0_primeOf_45 : decode cX0_primeOf 45 = .ok (.ireturn, 1) := by decide +kernel
theorem dX0_primeOf_46 : decode cX0_primeOf 46 = .ok (.iconst 3, 1) := by decide +kernel
theorem dX0_primeOf_47 : decode cX0_primeOf 47 = .ok (.ireturn, 1) := by decide +kernel
theorem dX0_primeOf_48 : decode cX0_primeOf 48 = .ok (.iload_n 0, 1) := by decide +kernel
theorem dX0_primeOf_49 : decode cX0_primeOf 49 = .ok (.ireturn, 1) := by decide +kernel
theorem dX0_fillSums_0 : decode cX0_fillSums 0 = .ok (.iconst 0, 1) := by decide +kernel
theorem dX0_fillSums_1 : decode cX0_fillSums 1 = .ok (.istore_n 1, 1) := by decide +kernel
theorem dX0_fillSums_2 : decode cX0_fillSums 2 = .ok (.iload_n 1, 1) := by decide +kernel
theorem dX0_fillSums_3 : decode cX0_fillSums 3 = .ok (.aload_n 0, 1) := by decide +kernel
theorem dX0_fillSums_4 : decode cX0_fillSums 4 = .ok (.getfield 21, 3) := by decide +kernel
theorem dX0_fillSums_7 : decode cX0_fillSums 7 = .ok (.if_icmp .ge 57, 3) := by decide +kernel
theorem dX0_fillSums_10 : decode cX0_fillSums 10 = .ok (.iconst 0, 1) := by decide +kernel
theorem dX0_fillSums_11 : decode cX0_fillSums 11 = .ok (.istore_n 2, 1) := by decide +kernel
theorem dX0_fillSums_12 : decode cX0_fillSums 12 = .ok (.iload_n 2, 1) := by decide +kernel
theorem dX0_fillSums_13 : decode cX0_fillSums 13 = .ok (.aload_n 0, 1) := by decide +kernel
theorem dX0_fillSums_14 : decode cX0_fillSums 14 = .ok (.getfield 21, 3) := by decide +kernel
theorem dX0_fillSums_17 : decode cX0_fillSums 17 = .ok (.if_icmp .ge 41, 3) := by decide +kernel
theorem dX0_fillSums_20 : decode cX0_fillSums 20 = .ok (.aload_n 0, 1) := by decide +kernel
theorem dX0_fillSums_21 : decode cX0_fillSums 21 = .ok (.iload_n 1, 1) := by decide +kernel
theorem dX0_fillSums_22 : decode cX0_fillSums 22 = .ok (.iload_n 2, 1) := by decide +kernel
theorem dX0_fillSums_23 : decode cX0_fillSums 23 = .ok (.invokevirtual 56, 3) := by decide +kernel
theorem dX0_fillSums_26 : decode cX0_fillSums 26 = .ok (.istore_n 3, 1) := by decide +kernel
theorem dX0_fillSums_27 : decode cX0_fillSums 27 = .ok (.aload_n 0, 1) := by decide +kernel
theorem dX0_fillSums_28 : decode cX0_fillSums 28 = .ok (.getfield 32, 3) := by decide +kernel
theorem dX0_fillSums_31 : decode cX0_fillSums 31 = .ok (.iload_n 1, 1) := by decide +kernel
theorem dX0_fillSums_32 : decode cX0_fillSums 32 = .ok (.aload_n 0, 1) := by decide +kernel
theorem dX0_fillSums_33 : decode cX0_fillSums 33 = .ok (.getfield 21, 3) := by decide +kernel
theorem dX0_fillSums_36 : decode cX0_fillSums 36 = .ok (.imul, 1) := by decide +kernel
theorem dX0_fillSums_37 : decode cX0_fillSums 37 = .ok (.iload_n 2, 1) := by decide +kernel
theorem dX0_fillSums_38 : decode cX0_fillSums 38 = .ok (.iadd, 1) := by decide +kernel
theorem dX0_fillSums_39 : decode cX0_fillSums 39 = .ok (.iload_n 3, 1) := by decide +kernel
theorem dX0_fillSums_40 : decode cX0_fillSums 40 = .ok (.iastore, 1) := by decide +kernel
theorem dX0_fillSums_41 : decode cX0_fillSums 41 = .ok (.iload_n 3, 1) := by decide +kernel
theorem dX0_fillSums_42 : decode cX0_fillSums 42 = .ok (.ifCond .ne 10, 3) := by decide +kernel
theorem dX0_fillSums_45 : decode cX0_fillSums 45 = .ok (.aload_n 0, 1) := by decide +kernel
theorem dX0_fillSums_46 : decode cX0_fillSums 46 = .ok (.getfield 41, 3) := by decide +kernel
theorem dX0_fillSums_49 : decode cX0_fillSums 49 = .ok (.iload_n 1, 1) := by decide +kernel
theorem dX0_fillSums_50 : decode cX0_fillSums 50 = .ok (.iload_n 2, 1) := by decide +kernel
theorem dX0_fillSums_51 : decode cX0_fillSums 51 = .ok (.iastore, 1) := by decide +kernel
theorem dX0_fillSums_52 : decode cX0_fillSums 52 = .ok (.iinc 2 1, 3) := by decide +kernel
theorem dX0_fillSums_55 : decode cX0_fillSums 55 = .ok (.goto (-43), 3) := by decide +kernel
theorem dX0_fillSums_58 : decode cX0_fillSums 58 = .ok (.iinc 1 1, 3) := by decide +kernel
theorem dX0_fillSums_61 : decode cX0_fillSums 61 = .ok (.goto (-59), 3) := by decide +kernel
theorem dX0_fillSums_64 : decode cX0_fillSums 64 = .ok (.return_, 1) := by decide +kernel
theorem dX0_digitwise_0 : decode cX0_digitwise 0 = .ok (.iconst 0, 1) := by decide +kernel
theorem dX0_digitwise_1 : decode cX0_digitwise 1 = .ok (.istore_n 3, 1) := by decide +kernel
theorem dX0_digitwise_2 : decode cX0_digitwise 2 = .ok (.iconst 1, 1) := by decide +kernel
theorem dX0_digitwise_3 : decode cX0_digitwise 3 = .ok (.istore 4, 2) := by decide +kernel
theorem dX0_digitwise_5 : decode cX0_digitwise 5 = .ok (.iload 4, 2) := by decide +kernel
theorem dX0_digitwise_7 : decode cX0_digitwise 7 = .ok (.aload_n 0, 1) := by decide +kernel
theorem dX0_digitwise_8 : decode cX0_digitwise 8 = .ok (.getfield 21, 3) := by decide +kernel
theorem dX0_digitwise_11 : decode cX0_digitwise 11 = .ok (.if_icmp .ge 35, 3) := by decide +kernel
theorem dX0_digitwise_14 : decode cX0_digitwise 14 = .ok (.iload_n 3, 1) := by decide +kernel
theorem dX0_digitwise_15 : decode cX0_digitwise 15 = .ok (.iload_n 1, 1) := by decide +kernel
theorem dX0_digitwise_16 : decode cX0_digitwise 16 = .ok (.iload 4, 2) := by decide +kernel
theorem dX0_digitwise_18 : decode cX0_digitwise 18 = .ok (.idiv, 1) := by decide +kernel
theorem dX0_digitwise_19 : decode cX0_digitwise 19 = .ok (.iload_n 2, 1) := by decide +kernel
theorem dX0_digitwise_20 : decode cX0_digitwise 20 = .ok (.iload 4, 2) := by decide +kernel
theorem dX0_digitwise_22 : decode cX0_digitwise 22 = .ok (.idiv, 1) := by decide +kernel
theorem dX0_digitwise_23 : decode cX0_digitwise 23 = .ok (.iadd, 1) := by decide +kernel
theorem dX0_digitwise_24 : decode cX0_digitwise 24 = .ok (.aload_n 0, 1) := by decide +kernel
theorem dX0_digitwise_25 : decode cX0_digitwise 25 = .ok (.getfield 29, 3) := by decide +kernel
theorem dX0_digitwise_28 : decode cX0_digitwise 28 = .ok (.irem, 1) := by decide +kernel
theorem dX0_digitwise_29 : decode cX0_digitwise 29 = .ok (.iload 4, 2) := by decide +kernel
theorem dX0_digitwise_31 : decode cX0_digitwise 31 = .ok (.imul, 1) := by decide +kernel
theorem dX0_digitwise_32 : decode cX0_digitwise 32 = .ok (.iadd, 1) := by decide +kernel
theorem dX0_digitwise_33 : decode cX0_digitwise 33 = .ok (.istore_n 3, 1) := by decide +kernel
theorem dX0_digitwise_34 : decode cX0_digitwise 34 = .ok (.iload 4, 2) := by decide +kernel
theorem dX0_digitwise_36 : decode cX0_digitwise 36 = .ok (.aload_n 0, 1) := by decide +kernel
theorem dX0_digitwise_37 : decode cX0_digitwise 37 = .ok (.getfield 29, 3) := by decide +kernel
theorem dX0_digitwise_40 : decode cX0_digitwise 40 = .ok (.imul, 1) := by decide +kernel
theorem dX0_digitwise_41 : decode cX0_digitwise 41 = .ok (.istore 4, 2) := by decide +kernel
theorem dX0_digitwise_43 : decode cX0_digitwise 43 = .ok (.goto (-38), 3) := by decide +kernel
theorem dX0_digitwise_46 : decode cX0_digitwise 46 = .ok (.iload_n 3, 1) := by decide +kernel
theorem dX0_digitwise_47 : decode cX0_digitwise 47 = .ok (.ireturn, 1) := by decide +kernel
theorem dX0_fillProducts_0 : decode cX0_fillProducts 0 = .ok (.iconst 0, 1) := by decide +kernel
theorem dX0_fillProducts_1 : decode cX0_fillProducts 1 = .ok (.istore_n 1, 1) := by decide +kernel
theorem dX0_fillProducts_2 : decode cX0_fillProducts 2 = .ok (.iload_n 1, 1) := by decide +kernel
theorem dX0_fillProducts_3 : decode cX0_fillProducts 3 = .ok (.aload_n 0, 1) := by decide +kernel
theorem dX0_fillProducts_4 : decode cX0_fillProducts 4 = .ok (.getfield 21, 3) := by decide +kernel
theorem dX0_fillProducts_7 : decode cX0_fillProducts 7 = .ok (.if_icmp .ge 80, 3) := by decide +kernel
theorem dX0_fillProducts_10 : decode cX0_fillProducts 10 = .ok (.iconst 0, 1) := by decide +kernel
theorem dX0_fillProducts_11 : decode cX0_fillProducts 11 = .ok (.istore_n 2, 1) := by decide +kernel
theorem dX0_fillProducts_12 : decode cX0_fillProducts 12 = .ok (.iload_n 2, 1) := by decide +kernel
theorem dX0_fillProducts_13 : decode cX0_fillProducts 13 = .ok (.aload_n 0, 1) := by decide +kernel
theorem dX0_fillProducts_14 : decode cX0_fillProducts 14 = .ok (.getfield 21, 3) := by decide +kernel
theorem dX0_fillProducts_17 : decode cX0_fillProducts 17 = .ok (.if_icmp .ge 64, 3) := by decide +kernel
theorem dX0_fillProducts_20 : decode cX0_fillProducts 20 = .ok (.aload_n 0, 1) := by decide +kernel
theorem dX0_fillProducts_21 : decode cX0_fillProducts 21 = .ok (.getfield 29, 3) := by decide +kernel
theorem dX0_fillProducts_24 : decode cX0_fillProducts 24 = .ok (.aload_n 0, 1) := by decide +kernel
theorem dX0_fillProducts_25 : decode cX0_fillProducts 25 = .ok (.getfield 21, 3) := by decide +kernel
theorem dX0_fillProducts_28 : decode cX0_fillProducts 28 = .ok (.if_icmp .ne 14, 3) := by decide +kernel
theorem dX0_fillProducts_31 : decode cX0_fillProducts 31 = .ok (.iload_n 1, 1) := by decide +kernel
theorem dX0_fillProducts_32 : decode cX0_fillProducts 32 = .ok (.iload_n 2, 1) := by decide +kernel
theorem dX0_fillProducts_33 : decode cX0_fillProducts 33 = .ok (.imul, 1) := by decide +kernel
theorem dX0_fillProducts_34 : decode cX0_fillProducts 34 = .ok (.aload_n 0, 1) := by decide +kernel
theorem dX0_fillProducts_35 : decode cX0_fillProducts 35 = .ok (.getfield 21, 3) := by decide +kernel
theorem dX0_fillProducts_38 : decode cX0_fillProducts 38 = .ok (.irem, 1) := by decide +kernel
theorem dX0_fillProducts_39 : decode cX0_fillProducts 39 = .ok (.goto 9, 3) := by decide +kernel
theorem dX0_fillProducts_42 : decode cX0_fillProducts 42 = .ok (.aload_n 0, 1) := by decide +kernel
theorem dX0_fillProducts_43 : decode cX0_fillProducts 43 = .ok (.iload_n 1, 1) := by decide +kernel
theorem dX0_fillProducts_44 : decode cX0_fillProducts 44 = .ok (.iload_n 2, 1) := by decide +kernel
theorem dX0_fillProducts_45 : decode cX0_fillProducts 45 = .ok (.invokevirtual 60, 3) := by decide +kernel
theorem dX0_fillProducts_48 : decode cX0_fillProducts 48 = .ok (.istore_n 3, 1) := by decide +kernel
theorem dX0_fillProducts_49 : decode cX0_fillProducts 49 = .ok (.aload_n 0, 1) := by decide +kernel
theorem dX0_fillProducts_50 : decode cX0_fillProducts 50 = .ok (.getfield 35, 3) := by decide +kernel
theorem dX0_fillProducts_53 : decode cX0_fillProducts 53 = .ok (.iload_n 1, 1) := by decide +kernel
theorem dX0_fillProducts_54 : decode cX0_fillProducts 54 = .ok (.aload_n 0, 1) := by decide +kernel
theorem dX0_fillProducts_55 : decode cX0_fillProducts 55 = .ok (.getfield 21, 3) := by decide +kernel
theorem dX0_fillProducts_58 : decode cX0_fillProducts 58 = .ok (.imul, 1) := by decide +kernel
theorem dX0_fillProducts_59 : decode cX0_fillProducts 59 = .ok (.iload_n 2, 1) := by decide +kernel
theorem dX0_fillProducts_60 : decode cX0_fillProducts 60 = .ok (.iadd, 1) := by decide +kernel
theorem dX0_fillProducts_61 : decode cX0_fillProducts 61 = .ok (.iload_n 3, 1) := by decide +kernel
theorem dX0_fillProducts_62 : decode cX0_fillProducts 62 = .ok (.iastore, 1) := by decide +kernel
theorem dX0_fillProducts_63 : decode cX0_fillProducts 63 = .ok (.iload_n 3, 1) := by decide +kernel
theorem dX0_fillProducts_64 : decode cX0_fillProducts 64 = .ok (.iconst 1, 1) := by decide +kernel
theorem dX0_fillProducts_65 : decode cX0_fillProducts 65 = .ok (.if_icmp .ne 10, 3) := by decide +kernel
theorem dX0_fillProducts_68 : decode cX0_fillProducts 68 = .ok (.aload_n 0, 1) := by decide +kernel
theorem dX0_fillProducts_69 : decode cX0_fillProducts 69 = .ok (.getfield 44, 3) := by decide +kernel
theorem dX0_fillProducts_72 : decode cX0_fillProducts 72 = .ok (.iload_n 1, 1) := by decide +kernel
theorem dX0_fillProducts_73 : decode cX0_fillProducts 73 = .ok (.iload_n 2, 1) := by decide +kernel
theorem dX0_fillProducts_74 : decode cX0_fillProducts 74 = .ok (.iastore, 1) := by decide +kernel
theorem dX0_fillProducts_75 : decode cX0_fillProducts 75 = .ok (.iinc 2 1, 3) := by decide +kernel
theorem dX0_fillProducts_78 : decode cX0_fillProducts 78 = .ok (.goto (-66), 3) := by decide +kernel
theorem dX0_fillProducts_81 : decode cX0_fillProducts 81 = .ok (.iinc 1 1, 3) := by decide +kernel
theorem dX0_fillProducts_84 : decode cX0_fillProducts 84 = .ok (.goto (-82), 3) := by decide +kernel
theorem dX0_fillProducts_87 : decode cX0_fillProducts 87 = .ok (.return_, 1) := by decide +kernel
theorem dX0_polynomialProduct_0 : decode cX0_polynomialProduct 0 = .ok (.iconst 0, 1) := by decide +kernel
theorem dX0_polynomialProduct_1 : decode cX0_polynomialProduct 1 = .ok (.istore_n 3, 1) := by decide +kernel
theorem dX0_polynomialProduct_2 : decode cX0_polynomialProduct 2 = .ok (.aload_n 0, 1) := by decide +kernel
theorem dX0_polynomialProduct_3 : decode cX0_polynomialProduct 3 = .ok (.getfield 21, 3) := by decide +kernel
theorem dX0_polynomialProduct_6 : decode cX0_polynomialProduct 6 = .ok (.aload_n 0, 1) := by decide +kernel
theorem dX0_polynomialProduct_7 : decode cX0_polynomialProduct 7 = .ok (.getfield 29, 3) := by decide +kernel
theorem dX0_polynomialProduct_10 : decode cX0_polynomialProduct 10 = .ok (.idiv, 1) := by decide +kernel
theorem dX0_polynomialProduct_11 : decode cX0_polynomialProduct 11 = .ok (.istore 4, 2) := by decide +kernel
theorem dX0_polynomialProduct_13 : decode cX0_polynomialProduct 13 = .ok (.iload 4, 2) := by decide +kernel
theorem dX0_polynomialProduct_15 : decode cX0_polynomialProduct 15 = .ok (.ifCond .le 39, 3) := by decide +kernel
theorem dX0_polynomialProduct_18 : decode cX0_polynomialProduct 18 = .ok (.aload_n 0, 1) := by decide +kernel
theorem dX0_polynomialProduct_19 : decode cX0_polynomialProduct 19 = .ok (.aload_n 0, 1) := by decide +kernel
theorem dX0_polynomialProduct_20 : decode cX0_polynomialProduct 20 = .ok (.iload_n 3, 1) := by decide +kernel
theorem dX0_polynomialProduct_21 : decode cX0_polynomialProduct 21 = .ok (.invokevirtual 63, 3) := by decide +kernel
theorem dX0_polynomialProduct_24 : decode cX0_polynomialProduct 24 = .ok (.aload_n 0, 1) := by decide +kernel
theorem dX0_polynomialProduct_25 : decode cX0_polynomialProduct 25 = .ok (.iload_n 1, 1) := by decide +kernel
theorem dX0_polynomialProduct_26 : decode cX0_polynomialProduct 26 = .ok (.iload_n 2, 1) := by decide +kernel
theorem dX0_polynomialProduct_27 : decode cX0_polynomialProduct 27 = .ok (.iload 4, 2) := by decide +kernel
theorem dX0_polynomialProduct_29 : decode cX0_polynomialProduct 29 = .ok (.idiv, 1) := by decide +kernel
theorem dX0_polynomialProduct_30 : decode cX0_polynomialProduct 30 = .ok (.aload_n 0, 1) := by decide +kernel
theorem dX0_polynomialProduct_31 : decode cX0_polynomialProduct 31 = .ok (.getfield 29, 3) := by decide +kernel
theorem dX0_polynomialProduct_34 : decode cX0_polynomialProduct 34 = .ok (.irem, 1) := by decide +kernel
theorem dX0_polynomialProduct_35 : decode cX0_polynomialProduct 35 = .ok (.invokevirtual 66, 3) := by decide +kernel
theorem dX0_polynomialProduct_38 : decode cX0_polynomialProduct 38 = .ok (.invokevirtual 69, 3) := by decide +kernel
theorem dX0_polynomialProduct_41 : decode cX0_polynomialProduct 41 = .ok (.istore_n 3, 1) := by decide +kernel
theorem dX0_polynomialProduct_42 : decode cX0_polynomialProduct 42 = .ok (.iload 4, 2) := by decide +kernel
theorem dX0_polynomialProduct_44 : decode cX0_polynomialProduct 44 = .ok (.aload_n 0, 1) := by decide +kernel
theorem dX0_polynomialProduct_45 : decode cX0_polynomialProduct 45 = .ok (.getfield 29, 3) := by decide +kernel
theorem dX0_polynomialProduct_48 : decode cX0_polynomialProduct 48 = .ok (.idiv, 1) := by decide +kernel
theorem dX0_polynomialProduct_49 : decode cX0_polynomialProduct 49 = .ok (.istore 4, 2) := by decide +kernel
theorem dX0_polynomialProduct_51 : decode cX0_polynomialProduct 51 = .ok (.goto (-38), 3) := by decide +kernel
theorem dX0_polynomialProduct_54 : decode cX0_polynomialProduct 54 = .ok (.iload_n 3, 1) := by decide +kernel
theorem dX0_polynomialProduct_55 : decode cX0_polynomialProduct 55 = .ok (.ireturn, 1) := by decide +kernel
theorem dX0_timesZ_0 : decode cX0_timesZ 0 = .ok (.aload_n 0, 1) := by decide +kernel
theorem dX0_timesZ_1 : decode cX0_timesZ 1 = .ok (.getfield 21, 3) := by decide +kernel
theorem dX0_timesZ_4 : decode cX0_timesZ 4 = .ok (.aload_n 0, 1) := by decide +kernel
theorem dX0_timesZ_5 : decode cX0_timesZ 5 = .ok (.getfield 29, 3) := by decide +kernel
theorem dX0_timesZ_8 : decode cX0_timesZ 8 = .ok (.idiv, 1) := by decide +kernel
theorem dX0_timesZ_9 : decode cX0_timesZ 9 = .ok (.istore_n 2, 1) := by decide +kernel
theorem dX0_timesZ_10 : decode cX0_timesZ 10 = .ok (.aload_n 0, 1) := by decide +kernel
theorem dX0_timesZ_11 : decode cX0_timesZ 11 = .ok (.getfield 29, 3) := by decide +kernel
theorem dX0_timesZ_14 : decode cX0_timesZ 14 = .ok (.iconst 2, 1) := by decide +kernel
theorem dX0_timesZ_15 : decode cX0_timesZ 15 = .ok (.if_icmp .ne 7, 3) := by decide +kernel
theorem dX0_timesZ_18 : decode cX0_timesZ 18 = .ok (.iconst 3, 1) := by decide +kernel
theorem dX0_timesZ_19 : decode cX0_timesZ 19 = .ok (.goto 4, 3) := by decide +kernel
theorem dX0_timesZ_22 : decode cX0_timesZ 22 = .ok (.iconst 2, 1) := by decide +kernel
theorem dX0_timesZ_23 : decode cX0_timesZ 23 = .ok (.istore_n 3, 1) := by decide +kernel
theorem dX0_timesZ_24 : decode cX0_timesZ 24 = .ok (.aload_n 0, 1) := by decide +kernel
theorem dX0_timesZ_25 : decode cX0_timesZ 25 = .ok (.iload_n 1, 1) := by decide +kernel
theorem dX0_timesZ_26 : decode cX0_timesZ 26 = .ok (.iload_n 2, 1) := by decide +kernel
theorem dX0_timesZ_27 : decode cX0_timesZ 27 = .ok (.irem, 1) := by decide +kernel
theorem dX0_timesZ_28 : decode cX0_timesZ 28 = .ok (.aload_n 0, 1) := by decide +kernel
theorem dX0_timesZ_29 : decode cX0_timesZ 29 = .ok (.getfield 29, 3) := by decide +kernel
theorem dX0_timesZ_32 : decode cX0_timesZ 32 = .ok (.imul, 1) := by decide +kernel
theorem dX0_timesZ_33 : decode cX0_timesZ 33 = .ok (.aload_n 0, 1) := by decide +kernel
theorem dX0_timesZ_34 : decode cX0_timesZ 34 = .ok (.iload_n 3, 1) := by decide +kernel
theorem dX0_timesZ_35 : decode cX0_timesZ 35 = .ok (.iload_n 1, 1) := by decide +kernel
theorem dX0_timesZ_36 : decode cX0_timesZ 36 = .ok (.iload_n 2, 1) := by decide +kernel
theorem dX0_timesZ_37 : decode cX0_timesZ 37 = .ok (.idiv, 1) := by decide +kernel
theorem dX0_timesZ_38 : decode cX0_timesZ 38 = .ok (.invokevirtual 66, 3) := by decide +kernel
theorem dX0_timesZ_41 : decode cX0_timesZ 41 = .ok (.invokevirtual 69, 3) := by decide +kernel
theorem dX0_timesZ_44 : decode cX0_timesZ 44 = .ok (.ireturn, 1) := by decide +kernel
theorem dX0_repeated_0 : decode cX0_repeated 0 = .ok (.iconst 0, 1) := by decide +kernel
theorem dX0_repeated_1 : decode cX0_repeated 1 = .ok (.istore_n 3, 1) := by decide +kernel
theorem dX0_repeated_2 : decode cX0_repeated 2 = .ok (.iconst 0, 1) := by decide +kernel
theorem dX0_repeated_3 : decode cX0_repeated 3 = .ok (.istore 4, 2) := by decide +kernel
theorem dX0_repeated_5 : decode cX0_repeated 5 = .ok (.iload 4, 2) := by decide +kernel
theorem dX0_repeated_7 : decode cX0_repeated 7 = .ok (.iload_n 2, 1) := by decide +kernel
theorem dX0_repeated_8 : decode cX0_repeated 8 = .ok (.if_icmp .ge 23, 3) := by decide +kernel
theorem dX0_repeated_11 : decode cX0_repeated 11 = .ok (.aload_n 0, 1) := by decide +kernel
theorem dX0_repeated_12 : decode cX0_repeated 12 = .ok (.getfield 32, 3) := by decide +kernel
theorem dX0_repeated_15 : decode cX0_repeated 15 = .ok (.iload_n 3, 1) := by decide +kernel
theorem dX0_repeated_16 : decode cX0_repeated 16 = .ok (.aload_n 0, 1) := by decide +kernel
theorem dX0_repeated_17 : decode cX0_repeated 17 = .ok (.getfield 21, 3) := by decide +kernel
theorem dX0_repeated_20 : decode cX0_repeated 20 = .ok (.imul, 1) := by decide +kernel
theorem dX0_repeated_21 : decode cX0_repeated 21 = .ok (.iload_n 1, 1) := by decide +kernel
theorem dX0_repeated_22 : decode cX0_repeated 22 = .ok (.iadd, 1) := by decide +kernel
theorem dX0_repeated_23 : decode cX0_repeated 23 = .ok (.iaload, 1) := by decide +kernel
theorem dX0_repeated_24 : decode cX0_repeated 24 = .ok (.istore_n 3, 1) := by decide +kernel
theorem dX0_repeated_25 : decode cX0_repeated 25 = .ok (.iinc 4 1, 3) := by decide +kernel
theorem dX0_repeated_28 : decode cX0_repeated 28 = .ok (.goto (-23), 3) := by decide +kernel
theorem dX0_repeated_31 : decode cX0_repeated 31 = .ok (.iload_n 3, 1) := by decide +kernel
theorem dX0_repeated_32 : decode cX0_repeated 32 = .ok (.ireturn, 1) := by decide +kernel
theorem dX0_fillPowers_0 : decode cX0_fillPowers 0 = .ok (.iconst 0, 1) := by decide +kernel
theorem dX0_fillPowers_1 : decode cX0_fillPowers 1 = .ok (.istore_n 1, 1) := by decide +kernel
theorem dX0_fillPowers_2 : decode cX0_fillPowers 2 = .ok (.iload_n 1, 1) := by decide +kernel
theorem dX0_fillPowers_3 : decode cX0_fillPowers 3 = .ok (.aload_n 0, 1) := by decide +kernel
theorem dX0_fillPowers_4 : decode cX0_fillPowers 4 = .ok (.getfield 21, 3) := by decide +kernel
theorem dX0_fillPowers_7 : decode cX0_fillPowers 7 = .ok (.if_icmp .ge 48, 3) := by decide +kernel
theorem dX0_fillPowers_10 : decode cX0_fillPowers 10 = .ok (.iconst 1, 1) := by decide +kernel
theorem dX0_fillPowers_11 : decode cX0_fillPowers 11 = .ok (.istore_n 2, 1) := by decide +kernel
theorem dX0_fillPowers_12 : decode cX0_fillPowers 12 = .ok (.iconst 0, 1) := by decide +kernel
theorem dX0_fillPowers_13 : decode cX0_fillPowers 13 = .ok (.istore_n 3, 1) := by decide +kernel
theorem dX0_fillPowers_14 : decode cX0_fillPowers 14 = .ok (.iload_n 3, 1) := by decide +kernel
theorem dX0_fillPowers_15 : decode cX0_fillPowers 15 = .ok (.aload_n 0, 1) := by decide +kernel
theorem dX0_fillPowers_16 : decode cX0_fillPowers 16 = .ok (.getfield 21, 3) := by decide +kernel
theorem dX0_fillPowers_19 : decode cX0_fillPowers 19 = .ok (.if_icmp .ge 30, 3) := by decide +kernel
theorem dX0_fillPowers_22 : decode cX0_fillPowers 22 = .ok (.aload_n 0, 1) := by decide +kernel
theorem dX0_fillPowers_23 : decode cX0_fillPowers 23 = .ok (.getfield 38, 3) := by decide +kernel
theorem dX0_fillPowers_26 : decode cX0_fillPowers 26 = .ok (.iload_n 1, 1) := by decide +kernel
theorem dX0_fillPowers_27 : decode cX0_fillPowers 27 = .ok (.aload_n 0, 1) := by decide +kernel
theorem dX0_fillPowers_28 : decode cX0_fillPowers 28 = .ok (.getfield 21, 3) := by decide +kernel
theorem dX0_fillPowers_31 : decode cX0_fillPowers 31 = .ok (.imul, 1) := by decide +kernel
theorem dX0_fillPowers_32 : decode cX0_fillPowers 32 = .ok (.iload_n 3, 1) := by decide +kernel
theorem dX0_fillPowers_33 : decode cX0_fillPowers 33 = .ok (.iadd, 1) := by decide +kernel
theorem dX0_fillPowers_34 : decode cX0_fillPowers 34 = .ok (.iload_n 2, 1) := by decide +kernel
theorem dX0_fillPowers_35 : decode cX0_fillPowers 35 = .ok (.iastore, 1) := by decide +kernel
theorem dX0_fillPowers_36 : decode cX0_fillPowers 36 = .ok (.aload_n 0, 1) := by decide +kernel
theorem dX0_fillPowers_37 : decode cX0_fillPowers 37 = .ok (.iload_n 2, 1) := by decide +kernel
theorem dX0_fillPowers_38 : decode cX0_fillPowers 38 = .ok (.iload_n 1, 1) := by decide +kernel
theorem dX0_fillPowers_39 : decode cX0_fillPowers 39 = .ok (.invokevirtual 72, 3) := by decide +kernel
theorem dX0_fillPowers_42 : decode cX0_fillPowers 42 = .ok (.istore_n 2, 1) := by decide +kernel
theorem dX0_fillPowers_43 : decode cX0_fillPowers 43 = .ok (.iinc 3 1, 3) := by decide +kernel
theorem dX0_fillPowers_46 : decode cX0_fillPowers 46 = .ok (.goto (-32), 3) := by decide +kernel
theorem dX0_fillPowers_49 : decode cX0_fillPowers 49 = .ok (.iinc 1 1, 3) := by decide +kernel
theorem dX0_fillPowers_52 : decode cX0_fillPowers 52 = .ok (.goto (-50), 3) := by decide +kernel
theorem dX0_fillPowers_55 : decode cX0_fillPowers 55 = .ok (.return_, 1) := by decide +kernel
theorem dX0_polynomials_0 : decode cX0_polynomials 0 = .ok (.iconst 1, 1) := by decide +kernel
theorem dX0_polynomials_1 : decode cX0_polynomials 1 = .ok (.istore_n 2, 1) := by decide +kernel
theorem dX0_polynomials_2 : decode cX0_polynomials 2 = .ok (.iconst 1, 1) := by decide +kernel
theorem dX0_polynomials_3 : decode cX0_polynomials 3 = .ok (.istore_n 3, 1) := by decide +kernel
theorem dX0_polynomials_4 : decode cX0_polynomials 4 = .ok (.iload_n 3, 1) := by decide +kernel
theorem dX0_polynomials_5 : decode cX0_polynomials 5 = .ok (.iload_n 1, 1) := by decide +kernel
theorem dX0_polynomials_6 : decode cX0_polynomials 6 = .ok (.if_icmp .ge 16, 3) := by decide +kernel
theorem dX0_polynomials_9 : decode cX0_polynomials 9 = .ok (.iload_n 2, 1) := by decide +kernel
theorem dX0_polynomials_10 : decode cX0_polynomials 10 = .ok (.aload_n 0, 1) := by decide +kernel
theorem dX0_polynomials_11 : decode cX0_polynomials 11 = .ok (.getfield 21, 3) := by decide +kernel
theorem dX0_polynomials_14 : decode cX0_polynomials 14 = .ok (.imul, 1) := by decide +kernel
theorem dX0_polynomials_15 : decode cX0_polynomials 15 = .ok (.istore_n 2, 1) := by decide +kernel
theorem dX0_polynomials_16 : decode cX0_polynomials 16 = .ok (.iinc 3 1, 3) := by decide +kernel
theorem dX0_polynomials_19 : decode cX0_polynomials 19 = .ok (.goto (-15), 3) := by decide +kernel
theorem dX0_polynomials_22 : decode cX0_polynomials 22 = .ok (.iload_n 2, 1) := by decide +kernel
theorem dX0_polynomials_23 : decode cX0_polynomials 23 = .ok (.ireturn, 1) := by decide +kernel
theorem dX0_listing_0 : decode cX0_listing 0 = .ok (.aload_n 0, 1) := by decide +kernel
theorem dX0_listing_1 : decode cX0_listing 1 = .ok (.getfield 17, 3) := by decide +kernel
theorem dX0_listing_4 : decode cX0_listing 4 = .ok (.iload_n 1, 1) := by decide +kernel
theorem dX0_listing_5 : decode cX0_listing 5 = .ok (.aaload, 1) := by decide +kernel
theorem dX0_listing_6 : decode cX0_listing 6 = .ok (.ifnonnull 14, 3) := by decide +kernel
theorem dX0_listing_9 : decode cX0_listing 9 = .ok (.aload_n 0, 1) := by decide +kernel
theorem dX0_listing_10 : decode cX0_listing 10 = .ok (.getfield 17, 3) := by decide +kernel
theorem dX0_listing_13 : decode cX0_listing 13 = .ok (.iload_n 1, 1) := by decide +kernel
theorem dX0_listing_14 : decode cX0_listing 14 = .ok (.aload_n 0, 1) := by decide +kernel
theorem dX0_listing_15 : decode cX0_listing 15 = .ok (.iload_n 1, 1) := by decide +kernel
theorem dX0_listing_16 : decode cX0_listing 16 = .ok (.invokevirtual 75, 3) := by decide +kernel
theorem dX0_listing_19 : decode cX0_listing 19 = .ok (.aastore, 1) := by decide +kernel
theorem dX0_listing_20 : decode cX0_listing 20 = .ok (.aload_n 0, 1) := by decide +kernel
theorem dX0_listing_21 : decode cX0_listing 21 = .ok (.getfield 17, 3) := by decide +kernel
theorem dX0_listing_24 : decode cX0_listing 24 = .ok (.iload_n 1, 1) := by decide +kernel
theorem dX0_listing_25 : decode cX0_listing 25 = .ok (.aaload, 1) := by decide +kernel
theorem dX0_listing_26 : decode cX0_listing 26 = .ok (.areturn, 1) := by decide +kernel
theorem dX0_listed_0 : decode cX0_listed 0 = .ok (.new 15, 3) := by decide +kernel
theorem dX0_listed_3 : decode cX0_listed 3 = .ok (.dup, 1) := by decide +kernel
theorem dX0_listed_4 : decode cX0_listed 4 = .ok (.invokespecial 79, 3) := by decide +kernel
theorem dX0_listed_7 : decode cX0_listed 7 = .ok (.astore_n 2, 1) := by decide +kernel
theorem dX0_listed_8 : decode cX0_listed 8 = .ok (.aload_n 0, 1) := by decide +kernel
theorem dX0_listed_9 : decode cX0_listed 9 = .ok (.iload_n 1, 1) := by decide +kernel
theorem dX0_listed_10 : decode cX0_listed 10 = .ok (.invokevirtual 80, 3) := by decide +kernel
theorem dX0_listed_13 : decode cX0_listed 13 = .ok (.istore_n 3, 1) := by decide +kernel
theorem dX0_listed_14 : decode cX0_listed 14 = .ok (.iconst 0, 1) := by decide +kernel
theorem dX0_listed_15 : decode cX0_listed 15 = .ok (.istore 4, 2) := by decide +kernel
theorem dX0_listed_17 : decode cX0_listed 17 = .ok (.iload 4, 2) := by decide +kernel
theorem dX0_listed_19 : decode cX0_listed 19 = .ok (.iload_n 3, 1) := by decide +kernel
theorem dX0_listed_20 : decode cX0_listed 20 = .ok (.if_icmp .ge 30, 3) := by decide +kernel
theorem dX0_listed_23 : decode cX0_listed 23 = .ok (.aload_n 0, 1) := by decide +kernel
theorem dX0_listed_24 : decode cX0_listed 24 = .ok (.iload_n 1, 1) := by decide +kernel
theorem dX0_listed_25 : decode cX0_listed 25 = .ok (.iload 4, 2) := by decide +kernel
theorem dX0_listed_27 : decode cX0_listed 27 = .ok (.invokevirtual 83, 3) := by decide +kernel
theorem dX0_listed_30 : decode cX0_listed 30 = .ok (.aload_n 0, 1) := by decide +kernel
theorem dX0_listed_31 : decode cX0_listed 31 = .ok (.iload_n 1, 1) := by decide +kernel
theorem dX0_listed_32 : decode cX0_listed 32 = .ok (.invokevirtual 87, 3) := by decide +kernel
theorem dX0_listed_35 : decode cX0_listed 35 = .ok (.ifCond .eq 9, 3) := by decide +kernel
theorem dX0_listed_38 : decode cX0_listed 38 = .ok (.aload_n 2, 1) := by decide +kernel
theorem dX0_listed_39 : decode cX0_listed 39 = .ok (.iload 4, 2) := by decide +kernel
theorem dX0_listed_41 : decode cX0_listed 41 = .ok (.invokevirtual 91, 3) := by decide +kernel
theorem dX0_listed_44 : decode cX0_listed 44 = .ok (.iinc 4 1, 3) := by decide +kernel
theorem dX0_listed_47 : decode cX0_listed 47 = .ok (.goto (-30), 3) := by decide +kernel
theorem dX0_listed_50 : decode cX0_listed 50 = .ok (.aload_n 2, 1) := by decide +kernel
theorem dX0_listed_51 : decode cX0_listed 51 = .ok (.areturn, 1) := by decide +kernel
theorem dX0_writePolynomial_0 : decode cX0_writePolynomial 0 = .ok (.iload_n 2, 1) := by decide +kernel
theorem dX0_writePolynomial_1 : decode cX0_writePolynomial 1 = .ok (.istore_n 3, 1) := by decide +kernel
theorem dX0_writePolynomial_2 : decode cX0_writePolynomial 2 = .ok (.iconst 1, 1) := by decide +kernel
theorem dX0_writePolynomial_3 : decode cX0_writePolynomial 3 = .ok (.istore 4, 2) := by decide +kernel
theorem dX0_writePolynomial_5 : decode cX0_writePolynomial 5 = .ok (.iload 4, 2) := by decide +kernel
theorem dX0_writePolynomial_7 : decode cX0_writePolynomial 7 = .ok (.iload_n 1, 1) := by decide +kernel
theorem dX0_writePolynomial_8 : decode cX0_writePolynomial 8 = .ok (.if_icmp .ge 29, 3) := by decide +kernel
theorem dX0_writePolynomial_11 : decode cX0_writePolynomial 11 = .ok (.aload_n 0, 1) := by decide +kernel
theorem dX0_writePolynomial_12 : decode cX0_writePolynomial 12 = .ok (.getfield 9, 3) := by decide +kernel
theorem dX0_writePolynomial_15 : decode cX0_writePolynomial 15 = .ok (.iload 4, 2) := by decide +kernel
theorem dX0_writePolynomial_17 : decode cX0_writePolynomial 17 = .ok (.iload_n 3, 1) := by decide +kernel
theorem dX0_writePolynomial_18 : decode cX0_writePolynomial 18 = .ok (.aload_n 0, 1) := by decide +kernel
theorem dX0_writePolynomial_19 : decode cX0_writePolynomial 19 = .ok (.getfield 21, 3) := by decide +kernel
theorem dX0_writePolynomial_22 : decode cX0_writePolynomial 22 = .ok (.irem, 1) := by decide +kernel
theorem dX0_writePolynomial_23 : decode cX0_writePolynomial 23 = .ok (.iastore, 1) := by decide +kernel
theorem dX0_writePolynomial_24 : decode cX0_writePolynomial 24 = .ok (.iload_n 3, 1) := by decide +kernel
theorem dX0_writePolynomial_25 : decode cX0_writePolynomial 25 = .ok (.aload_n 0, 1) := by decide +kernel
theorem dX0_writePolynomial_26 : decode cX0_writePolynomial 26 = .ok (.getfield 21, 3) := by decide +kernel
theorem dX0_writePolynomial_29 : decode cX0_writePolynomial 29 = .ok (.idiv, 1) := by decide +kernel
theorem dX0_writePolynomial_30 : decode cX0_writePolynomial 30 = .ok (.istore_n 3, 1) := by decide +kernel
theorem dX0_writePolynomial_31 : decode cX0_writePolynomial 31 = .ok (.iinc 4 1, 3) := by decide +kernel
theorem dX0_writePolynomial_34 : decode cX0_writePolynomial 34 = .ok (.goto (-29), 3) := by decide +kernel
theorem dX0_writePolynomial_37 : decode cX0_writePolynomial 37 = .ok (.aload_n 0, 1) := by decide +kernel
theorem dX0_writePolynomial_38 : decode cX0_writePolynomial 38 = .ok (.getfield 9, 3) := by decide +kernel
theorem dX0_writePolynomial_41 : decode cX0_writePolynomial 41 = .ok (.iload_n 1, 1) := by decide +kernel
theorem dX0_writePolynomial_42 : decode cX0_writePolynomial 42 = .ok (.iconst 1, 1) := by decide +kernel
theorem dX0_writePolynomial_43 : decode cX0_writePolynomial 43 = .ok (.iastore, 1) := by decide +kernel
theorem dX0_writePolynomial_44 : decode cX0_writePolynomial 44 = .ok (.return_, 1) := by decide +kernel
theorem dX0_polynomialAt_0 : decode cX0_polynomialAt 0 = .ok (.iconst 0, 1) := by decide +kernel
theorem dX0_polynomialAt_1 : decode cX0_polynomialAt 1 = .ok (.istore_n 3, 1) := by decide +kernel
theorem dX0_polynomialAt_2 : decode cX0_polynomialAt 2 = .ok (.iload_n 1, 1) := by decide +kernel
theorem dX0_polynomialAt_3 : decode cX0_polynomialAt 3 = .ok (.istore 4, 2) := by decide +kernel
theorem dX0_polynomialAt_5 : decode cX0_polynomialAt 5 = .ok (.iload 4, 2) := by decide +kernel
theorem dX0_polynomialAt_7 : decode cX0_polynomialAt 7 = .ok (.ifCond .le 27, 3) := by decide +kernel
theorem dX0_polynomialAt_10 : decode cX0_polynomialAt 10 = .ok (.aload_n 0, 1) := by decide +kernel
theorem dX0_polynomialAt_11 : decode cX0_polynomialAt 11 = .ok (.aload_n 0, 1) := by decide +kernel
theorem dX0_polynomialAt_12 : decode cX0_polynomialAt 12 = .ok (.iload_n 3, 1) := by decide +kernel
theorem dX0_polynomialAt_13 : decode cX0_polynomialAt 13 = .ok (.aload_n 0, 1) := by decide +kernel
theorem dX0_polynomialAt_14 : decode cX0_polynomialAt 14 = .ok (.getfield 9, 3) := by decide +kernel
theorem dX0_polynomialAt_17 : decode cX0_polynomialAt 17 = .ok (.iload 4, 2) := by decide +kernel
theorem dX0_polynomialAt_19 : decode cX0_polynomialAt 19 = .ok (.iaload, 1) := by decide +kernel
theorem dX0_polynomialAt_20 : decode cX0_polynomialAt 20 = .ok (.invokevirtual 69, 3) := by decide +kernel
theorem dX0_polynomialAt_23 : decode cX0_polynomialAt 23 = .ok (.iload_n 2, 1) := by decide +kernel
theorem dX0_polynomialAt_24 : decode cX0_polynomialAt 24 = .ok (.invokevirtual 72, 3) := by decide +kernel
theorem dX0_polynomialAt_27 : decode cX0_polynomialAt 27 = .ok (.istore_n 3, 1) := by decide +kernel
theorem dX0_polynomialAt_28 : decode cX0_polynomialAt 28 = .ok (.iinc 4 (-1), 3) := by decide +kernel
theorem dX0_polynomialAt_31 : decode cX0_polynomialAt 31 = .ok (.goto (-26), 3) := by decide +kernel
theorem dX0_polynomialAt_34 : decode cX0_polynomialAt 34 = .ok (.iload_n 3, 1) := by decide +kernel
theorem dX0_polynomialAt_35 : decode cX0_polynomialAt 35 = .ok (.ireturn, 1) := by decide +kernel
theorem dX0_polynomialShuffles_0 : decode cX0_polynomialShuffles 0 = .ok (.iconst 0, 1) := by decide +kernel
theorem dX0_polynomialShuffles_1 : decode cX0_polynomialShuffles 1 = .ok (.istore_n 2, 1) := by decide +kernel
theorem dX0_polynomialShuffles_2 : decode cX0_polynomialShuffles 2 = .ok (.iconst 0, 1) := by decide +kernel
theorem dX0_polynomialShuffles_3 : decode cX0_polynomialShuffles 3 = .ok (.istore_n 3, 1) := by decide +kernel
theorem dX0_polynomialShuffles_4 : decode cX0_polynomialShuffles 4 = .ok (.iload_n 3, 1) := by decide +kernel
theorem dX0_polynomialShuffles_5 : decode cX0_polynomialShuffles 5 = .ok (.aload_n 0, 1) := by decide +kernel
theorem dX0_polynomialShuffles_6 : decode cX0_polynomialShuffles 6 = .ok (.getfield 21, 3) := by decide +kernel
theorem dX0_polynomialShuffles_9 : decode cX0_polynomialShuffles 9 = .ok (.if_icmp .ge 33, 3) := by decide +kernel
theorem dX0_polynomialShuffles_12 : decode cX0_polynomialShuffles 12 = .ok (.iconst 1, 1) := by decide +kernel
theorem dX0_polynomialShuffles_13 : decode cX0_polynomialShuffles 13 = .ok (.aload_n 0, 1) := by decide +kernel
theorem dX0_polynomialShuffles_14 : decode cX0_polynomialShuffles 14 = .ok (.iload_n 1, 1) := by decide +kernel
theorem dX0_polynomialShuffles_15 : decode cX0_polynomialShuffles 15 = .ok (.iload_n 3, 1) := by decide +kernel
theorem dX0_polynomialShuffles_16 : decode cX0_polynomialShuffles 16 = .ok (.invokevirtual 95, 3) := by decide +kernel
theorem dX0_polynomialShuffles_19 : decode cX0_polynomialShuffles 19 = .ok (.ishl, 1) := by decide +kernel
theorem dX0_polynomialShuffles_20 : decode cX0_polynomialShuffles 20 = .ok (.istore 4, 2) := by decide +kernel
theorem dX0_polynomialShuffles_22 : decode cX0_polynomialShuffles 22 = .ok (.iload_n 2, 1) := by decide +kernel
theorem dX0_polynomialShuffles_23 : decode cX0_polynomialShuffles 23 = .ok (.iload 4, 2) := by decide +kernel
theorem dX0_polynomialShuffles_25 : decode cX0_polynomialShuffles 25 = .ok (.iand, 1) := by decide +kernel
theorem dX0_polynomialShuffles_26 : decode cX0_polynomialShuffles 26 = .ok (.ifCond .eq 5, 3) := by decide +kernel
theorem dX0_polynomialShuffles_29 : decode cX0_polynomialShuffles 29 = .ok (.iconst 0, 1) := by decide +kernel
theorem dX0_polynomialShuffles_30 : decode cX0_polynomialShuffles 30 = .ok (.ireturn, 1) := by decide +kernel
theorem dX0_polynomialShuffles_31 : decode cX0_polynomialShuffles 31 = .ok (.iload_n 2, 1) := by decide +kernel
theorem dX0_polynomialShuffles_32 : decode cX0_polynomialShuffles 32 = .ok (.iload 4, 2) := by decide +kernel
theorem dX0_polynomialShuffles_34 : decode cX0_polynomialShuffles 34 = .ok (.ior, 1) := by decide +kernel
theorem dX0_polynomialShuffles_35 : decode cX0_polynomialShuffles 35 = .ok (.istore_n 2, 1) := by decide +kernel
theorem dX0_polynomialShuffles_36 : decode cX0_polynomialShuffles 36 = .ok (.iinc 3 1, 3) := by decide +kernel
theorem dX0_polynomialShuffles_39 : decode cX0_polynomialShuffles 39 = .ok (.goto (-35), 3) := by decide +kernel
theorem dX0_polynomialShuffles_42 : decode cX0_polynomialShuffles 42 = .ok (.iconst 1, 1) := by decide +kernel
theorem dX0_polynomialShuffles_43 : decode cX0_polynomialShuffles 43 = .ok (.ireturn, 1) := by decide +kernel
theorem dX1_init_0 : decode cX1_init 0 = .ok (.aload_n 0, 1) := by decide +kernel
theorem dX1_init_1 : decode cX1_init 1 = .ok (.invokespecial 1, 3) := by decide +kernel
theorem dX1_init_4 : decode cX1_init 4 = .ok (.aload_n 0, 1) := by decide +kernel
theorem dX1_init_5 : decode cX1_init 5 = .ok (.bipush 8, 2) := by decide +kernel
theorem dX1_init_7 : decode cX1_init 7 = .ok (.newarray .int, 2) := by decide +kernel
theorem dX1_init_9 : decode cX1_init 9 = .ok (.putfield 9, 3) := by decide +kernel
theorem dX1_init_12 : decode cX1_init 12 = .ok (.return_, 1) := by decide +kernel
theorem dX1_append_0 : decode cX1_append 0 = .ok (.aload_n 0, 1) := by decide +kernel
theorem dX1_append_1 : decode cX1_append 1 = .ok (.getfield 13, 3) := by decide +kernel
theorem dX1_append_4 : decode cX1_append 4 = .ok (.aload_n 0, 1) := by decide +kernel
theorem dX1_append_5 : decode cX1_append 5 = .ok (.getfield 9, 3) := by decide +kernel
theorem dX1_append_8 : decode cX1_append 8 = .ok (.arraylength, 1) := by decide +kernel
theorem dX1_append_9 : decode cX1_append 9 = .ok (.if_icmp .ne 20, 3) := by decide +kernel
theorem dX1_append_12 : decode cX1_append 12 = .ok (.aload_n 0, 1) := by decide +kernel
theorem dX1_append_13 : decode cX1_append 13 = .ok (.aload_n 0, 1) := by decide +kernel
theorem dX1_append_14 : decode cX1_append 14 = .ok (.getfield 9, 3) := by decide +kernel
theorem dX1_append_17 : decode cX1_append 17 = .ok (.iconst 2, 1) := by decide +kernel
theorem dX1_append_18 : decode cX1_append 18 = .ok (.aload_n 0, 1) := by decide +kernel
theorem dX1_append_19 : decode cX1_append 19 = .ok (.getfield 13, 3) := by decide +kernel
theorem dX1_append_22 : decode cX1_append 22 = .ok (.imul, 1) := by decide +kernel
theorem dX1_append_23 : decode cX1_append 23 = .ok (.invokestatic 17, 3) := by decide +kernel
theorem dX1_append_26 : decode cX1_append 26 = .ok (.putfield 9, 3) := by decide +kernel
theorem dX1_append_29 : decode cX1_append 29 = .ok (.aload_n 0, 1) := by decide +kernel
theorem dX1_append_30 : decode cX1_append 30 = .ok (.getfield 9, 3) := by decide +kernel
theorem dX1_append_33 : decode cX1_append 33 = .ok (.aload_n 0, 1) := by decide +kernel
theorem dX1_append_34 : decode cX1_append 34 = .ok (.getfield 13, 3) := by decide +kernel
theorem dX1_append_37 : decode cX1_append 37 = .ok (.iload_n 1, 1) := by decide +kernel
theorem dX1_append_38 : decode cX1_append 38 = .ok (.iastore, 1) := by decide +kernel
theorem dX1_append_39 : decode cX1_append 39 = .ok (.aload_n 0, 1) := by decide +kernel
theorem dX1_append_40 : decode cX1_append 40 = .ok (.dup, 1) := by decide +kernel
theorem dX1_append_41 : decode cX1_append 41 = .ok (.getfield 13, 3) := by decide +kernel
theorem dX1_append_44 : decode cX1_append 44 = .ok (.iconst 1, 1) := by decide +kernel
theorem dX1_append_45 : decode cX1_append 45 = .ok (.iadd, 1) := by decide +kernel
theorem dX1_append_46 : decode cX1_append 46 = .ok (.putfield 13, 3) := by decide +kernel
theorem dX1_append_49 : decode cX1_append 49 = .ok (.return_, 1) := by decide +kernel
theorem dX2_init_0 : decode cX2_init 0 = .ok (.aload_n 0, 1) := by decide +kernel
theorem dX2_init_1 : decode cX2_init 1 = .ok (.invokespecial 3, 3) := by decide +kernel
theorem dX2_init_4 : decode cX2_init 4 = .ok (.return_, 1) := by decide +kernel
theorem dX2_write_0 : decode cX2_write 0 = .ok (.aload_n 0, 1) := by decide +kernel
theorem dX2_write_1 : decode cX2_write 1 = .ok (.iload_n 1, 1) := by decide +kernel
theorem dX2_write_2 : decode cX2_write 2 = .ok (.putfield 9, 3) := by decide +kernel
theorem dX2_write_5 : decode cX2_write 5 = .ok (.aload_n 0, 1) := by decide +kernel
theorem dX2_write_6 : decode cX2_write 6 = .ok (.iload_n 2, 1) := by decide +kernel
theorem dX2_write_7 : decode cX2_write 7 = .ok (.putfield 15, 3) := by decide +kernel
theorem dX2_write_10 : decode cX2_write 10 = .ok (.aload_n 0, 1) := by decide +kernel
theorem dX2_write_11 : decode cX2_write 11 = .ok (.iload_n 3, 1) := by decide +kernel
theorem dX2_write_12 : decode cX2_write 12 = .ok (.putfield 18, 3) := by decide +kernel
theorem dX2_write_15 : decode cX2_write 15 = .ok (.aload_n 0, 1) := by decide +kernel
theorem dX2_write_16 : decode cX2_write 16 = .ok (.iload 4, 2) := by decide +kernel
theorem dX2_write_18 : decode cX2_write 18 = .ok (.putfield 21, 3) := by decide +kernel
theorem dX2_write_21 : decode cX2_write 21 = .ok (.aload_n 0, 1) := by decide +kernel
theorem dX2_write_22 : decode cX2_write 22 = .ok (.iconst 0, 1) := by decide +kernel
theorem dX2_write_23 : decode cX2_write 23 = .ok (.putfield 24, 3) := by decide +kernel
theorem dX2_write_26 : decode cX2_write 26 = .ok (.return_, 1) := by decide +kernel
theorem dX2_takes_0 : decode cX2_takes 0 = .ok (.iload_n 2, 1) := by decide +kernel
theorem dX2_takes_1 : decode cX2_takes 1 = .ok (.lookupswitch 41 #[(0, 27), (1, 34)], 27) := by decide +kernel
theorem dX2_takes_28 : decode cX2_takes 28 = .ok (.aload_n 0, 1) := by decide +kernel
theorem dX2_takes_29 : decode cX2_takes 29 = .ok (.aload_n 1, 1) := by decide +kernel
theorem dX2_takes_30 : decode cX2_takes 30 = .ok (.iload_n 3, 1) := by decide +kernel
theorem dX2_takes_31 : decode cX2_takes 31 = .ok (.invokevirtual 27, 3) := by decide +kernel
theorem dX2_takes_34 : decode cX2_takes 34 = .ok (.ireturn, 1) := by decide +kernel
theorem dX2_takes_35 : decode cX2_takes 35 = .ok (.aload_n 0, 1) := by decide +kernel
theorem dX2_takes_36 : decode cX2_takes 36 = .ok (.aload_n 1, 1) := by decide +kernel
theorem dX2_takes_37 : decode cX2_takes 37 = .ok (.iload_n 3, 1) := by decide +kernel
theorem dX2_takes_38 : decode cX2_takes 38 = .ok (.invokevirtual 31, 3) := by decide +kernel
theorem dX2_takes_41 : decode cX2_takes 41 = .ok (.ireturn, 1) := by decide +kernel
theorem dX2_takes_42 : decode cX2_takes 42 = .ok (.aload_n 0, 1) := by decide +kernel
theorem dX2_takes_43 : decode cX2_takes 43 = .ok (.aload_n 1, 1) := by decide +kernel
theorem dX2_takes_44 : decode cX2_takes 44 = .ok (.iload_n 3, 1) := by decide +kernel
theorem dX2_takes_45 : decode cX2_takes 45 = .ok (.invokevirtual 34, 3) := by decide +kernel
theorem dX2_takes_48 : decode cX2_takes 48 = .ok (.ireturn, 1) := by decide +kernel
theorem dX2_power_0 : decode cX2_power 0 = .ok (.aload_n 0, 1) := by decide +kernel
theorem dX2_power_1 : decode cX2_power 1 = .ok (.dup, 1) := by decide +kernel
theorem dX2_power_2 : decode cX2_power 2 = .ok (.getfield 24, 3) := by decide +kernel
theorem dX2_power_5 : decode cX2_power 5 = .ok (.iconst 1, 1) := by decide +kernel
theorem dX2_power_6 : decode cX2_power 6 = .ok (.iadd, 1) := by decide +kernel
theorem dX2_power_7 : decode cX2_power 7 = .ok (.putfield 24, 3) := by decide +kernel
theorem dX2_power_10 : decode cX2_power 10 = .ok (.aload_n 1, 1) := by decide +kernel
theorem dX2_power_11 : decode cX2_power 11 = .ok (.iload_n 2, 1) := by decide +kernel
theorem dX2_power_12 : decode cX2_power 12 = .ok (.aload_n 0, 1) := by decide +kernel
theorem dX2_power_13 : decode cX2_power 13 = .ok (.getfield 9, 3) := by decide +kernel
theorem dX2_power_16 : decode cX2_power 16 = .ok (.invokevirtual 37, 3) := by decide +kernel
theorem dX2_power_19 : decode cX2_power 19 = .ok (.ireturn, 1) := by decide +kernel
theorem dX2_dressed_0 : decode cX2_dressed 0 = .ok (.aload_n 0, 1) := by decide +kernel
theorem dX2_dressed_1 : decode cX2_dressed 1 = .ok (.dup, 1) := by decide +kernel
theorem dX2_dressed_2 : decode cX2_dressed 2 = .ok (.getfield 24, 3) := by decide +kernel
theorem dX2_dressed_5 : decode cX2_dressed 5 = .ok (.bipush 10, 2) := by decide +kernel
theorem dX2_dressed_7 : decode cX2_dressed 7 = .ok (.iadd, 1) := by decide +kernel
theorem dX2_dressed_8 : decode cX2_dressed 8 = .ok (.putfield 24, 3) := by decide +kernel
theorem dX2_dressed_11 : decode cX2_dressed 11 = .ok (.aload_n 1, 1) := by decide +kernel
theorem dX2_dressed_12 : decode cX2_dressed 12 = .ok (.aload_n 1, 1) := by decide +kernel
theorem dX2_dressed_13 : decode cX2_dressed 13 = .ok (.aload_n 0, 1) := by decide +kernel
theorem dX2_dressed_14 : decode cX2_dressed 14 = .ok (.getfield 15, 3) := by decide +kernel
theorem dX2_dressed_17 : decode cX2_dressed 17 = .ok (.aload_n 0, 1) := by decide +kernel
theorem dX2_dressed_18 : decode cX2_dressed 18 = .ok (.aload_n 1, 1) := by decide +kernel
theorem dX2_dressed_19 : decode cX2_dressed 19 = .ok (.aload_n 1, 1) := by decide +kernel
theorem dX2_dressed_20 : decode cX2_dressed 20 = .ok (.iload_n 2, 1) := by decide +kernel
theorem dX2_dressed_21 : decode cX2_dressed 21 = .ok (.aload_n 0, 1) := by decide +kernel
theorem dX2_dressed_22 : decode cX2_dressed 22 = .ok (.getfield 18, 3) := by decide +kernel
theorem dX2_dressed_25 : decode cX2_dressed 25 = .ok (.invokevirtual 43, 3) := by decide +kernel
theorem dX2_dressed_28 : decode cX2_dressed 28 = .ok (.invokevirtual 27, 3) := by decide +kernel
theorem dX2_dressed_31 : decode cX2_dressed 31 = .ok (.invokevirtual 46, 3) := by decide +kernel
theorem dX2_dressed_34 : decode cX2_dressed 34 = .ok (.aload_n 0, 1) := by decide +kernel
theorem dX2_dressed_35 : decode cX2_dressed 35 = .ok (.getfield 21, 3) := by decide +kernel
theorem dX2_dressed_38 : decode cX2_dressed 38 = .ok (.invokevirtual 43, 3) := by decide +kernel
theorem dX2_dressed_41 : decode cX2_dressed 41 = .ok (.ireturn, 1) := by decide +kernel
theorem dX2_twice_0 : decode cX2_twice 0 = .ok (.aload_n 0, 1) := by decide +kernel
theorem dX2_twice_1 : decode cX2_twice 1 = .ok (.dup, 1) := by decide +kernel
theorem dX2_twice_2 : decode cX2_twice 2 = .ok (.getfield 24, 3) := by decide +kernel
theorem dX2_twice_5 : decode cX2_twice 5 = .ok (.bipush 100, 2) := by decide +kernel
theorem dX2_twice_7 : decode cX2_twice 7 = .ok (.iadd, 1) := by decide +kernel
theorem dX2_twice_8 : decode cX2_twice 8 = .ok (.putfield 24, 3) := by decide +kernel
theorem dX2_twice_11 : decode cX2_twice 11 = .ok (.aload_n 0, 1) := by decide +kernel
theorem dX2_twice_12 : decode cX2_twice 12 = .ok (.aload_n 1, 1) := by decide +kernel
theorem dX2_twice_13 : decode cX2_twice 13 = .ok (.aload_n 0, 1) := by decide +kernel
theorem dX2_twice_14 : decode cX2_twice 14 = .ok (.aload_n 1, 1) := by decide +kernel
theorem dX2_twice_15 : decode cX2_twice 15 = .ok (.iload_n 2, 1) := by decide +kernel
theorem dX2_twice_16 : decode cX2_twice 16 = .ok (.invokevirtual 31, 3) := by decide +kernel
theorem dX2_twice_19 : decode cX2_twice 19 = .ok (.invokevirtual 31, 3) := by decide +kernel
theorem dX2_twice_22 : decode cX2_twice 22 = .ok (.ireturn, 1) := by decide +kernel
theorem dX3_init_0 : decode cX3_init 0 = .ok (.aload_n 0, 1) := by decide +kernel
theorem dX3_init_1 : decode cX3_init 1 = .ok (.invokespecial 1, 3) := by decide +kernel
theorem dX3_init_4 : decode cX3_init 4 = .ok (.aload_n 0, 1) := by decide +kernel
theorem dX3_init_5 : decode cX3_init 5 = .ok (.bipush 17, 2) := by decide +kernel
theorem dX3_init_7 : decode cX3_init 7 = .ok (.anewarray 9, 3) := by decide +kernel
theorem dX3_init_10 : decode cX3_init 10 = .ok (.putfield 11, 3) := by decide +kernel
theorem dX3_init_13 : decode cX3_init 13 = .ok (.aload_n 0, 1) := by decide +kernel
theorem dX3_init_14 : decode cX3_init 14 = .ok (.iconst 4, 1) := by decide +kernel
theorem dX3_init_15 : decode cX3_init 15 = .ok (.bipush 16, 2) := by decide +kernel
theorem dX3_init_17 : decode cX3_init 17 = .ok (.multianewarray 15 2, 4) := by decide +kernel
theorem dX3_init_21 : decode cX3_init 21 = .ok (.putfield 17, 3) := by decide +kernel
theorem dX3_init_24 : decode cX3_init 24 = .ok (.aload_n 0, 1) := by decide +kernel
theorem dX3_init_25 : decode cX3_init 25 = .ok (.bipush 16, 2) := by decide +kernel
theorem dX3_init_27 : decode cX3_init 27 = .ok (.newarray .int, 2) := by decide +kernel
theorem dX3_init_29 : decode cX3_init 29 = .ok (.putfield 20, 3) := by decide +kernel
theorem dX3_init_32 : decode cX3_init 32 = .ok (.aload_n 0, 1) := by decide +kernel
theorem dX3_init_33 : decode cX3_init 33 = .ok (.bipush 16, 2) := by decide +kernel
theorem dX3_init_35 : decode cX3_init 35 = .ok (.newarray .int, 2) := by decide +kernel
theorem dX3_init_37 : decode cX3_init 37 = .ok (.putfield 24, 3) := by decide +kernel
theorem dX3_init_40 : decode cX3_init 40 = .ok (.aload_n 0, 1) := by decide +kernel
theorem dX3_init_41 : decode cX3_init 41 = .ok (.new 27, 3) := by decide +kernel
theorem dX3_init_44 : decode cX3_init 44 = .ok (.dup, 1) := by decide +kernel
theorem dX3_init_45 : decode cX3_init 45 = .ok (.invokespecial 29, 3) := by decide +kernel
theorem dX3_init_48 : decode cX3_init 48 = .ok (.putfield 30, 3) := by decide +kernel
theorem dX3_init_51 : decode cX3_init 51 = .ok (.aload_n 0, 1) := by decide +kernel
theorem dX3_init_52 : decode cX3_init 52 = .ok (.iconst 5, 1) := by decide +kernel
theorem dX3_init_53 : decode cX3_init 53 = .ok (.invokevirtual 34, 3) := by decide +kernel
theorem dX3_init_56 : decode cX3_init 56 = .ok (.return_, 1) := by decide +kernel
theorem dX3_field_0 : decode cX3_field 0 = .ok (.iload_n 1, 1) := by decide +kernel
theorem dX3_field_1 : decode cX3_field 1 = .ok (.invokestatic 38, 3) := by decide +kernel
theorem dX3_field_4 : decode cX3_field 4 = .ok (.ifCond .ne 5, 3) := by decide +kernel
theorem dX3_field_7 : decode cX3_field 7 = .ok (.iconst (-1), 1) := by decide +kernel
theorem dX3_field_8 : decode cX3_field 8 = .ok (.ireturn, 1) := by decide +kernel
theorem dX3_field_9 : decode cX3_field 9 = .ok (.aload_n 0, 1) := by decide +kernel
theorem dX3_field_10 : decode cX3_field 10 = .ok (.getfield 42, 3) := by decide +kernel
theorem dX3_field_13 : decode cX3_field 13 = .ok (.istore_n 2, 1) := by decide +kernel
theorem dX3_field_14 : decode cX3_field 14 = .ok (.aload_n 0, 1) := by decide +kernel
theorem dX3_field_15 : decode cX3_field 15 = .ok (.iload_n 1, 1) := by decide +kernel
theorem dX3_field_16 : decode cX3_field 16 = .ok (.invokevirtual 34, 3) := by decide +kernel
theorem dX3_field_19 : decode cX3_field 19 = .ok (.iload_n 2, 1) := by decide +kernel
theorem dX3_field_20 : decode cX3_field 20 = .ok (.ireturn, 1) := by decide +kernel
theorem dX3_plus_0 : decode cX3_plus 0 = .ok (.aload_n 0, 1) := by decide +kernel
theorem dX3_plus_1 : decode cX3_plus 1 = .ok (.iload_n 1, 1) := by decide +kernel
theorem dX3_plus_2 : decode cX3_plus 2 = .ok (.invokevirtual 46, 3) := by decide +kernel
theorem dX3_plus_5 : decode cX3_plus 5 = .ok (.ifCond .eq 11, 3) := by decide +kernel
theorem dX3_plus_8 : decode cX3_plus 8 = .ok (.aload_n 0, 1) := by decide +kernel
theorem dX3_plus_9 : decode cX3_plus 9 = .ok (.iload_n 2, 1) := by decide +kernel
theorem dX3_plus_10 : decode cX3_plus 10 = .ok (.invokevirtual 46, 3) := by decide +kernel
theorem dX3_plus_13 : decode cX3_plus 13 = .ok (.ifCond .ne 5, 3) := by decide +kernel
theorem dX3_plus_16 : decode cX3_plus 16 = .ok (.iconst (-1), 1) := by decide +kernel
theorem dX3_plus_17 : decode cX3_plus 17 = .ok (.ireturn, 1) := by decide +kernel
theorem dX3_plus_18 : decode cX3_plus 18 = .ok (.aload_n 0, 1) := by decide +kernel
theorem dX3_plus_19 : decode cX3_plus 19 = .ok (.getfield 49, 3) := by decide +kernel
theorem dX3_plus_22 : decode cX3_plus 22 = .ok (.iload_n 1, 1) := by decide +kernel
theorem dX3_plus_23 : decode cX3_plus 23 = .ok (.iload_n 2, 1) := by decide +kernel
theorem dX3_plus_24 : decode cX3_plus 24 = .ok (.invokevirtual 53, 3) := by decide +kernel
theorem dX3_plus_27 : decode cX3_plus 27 = .ok (.ireturn, 1) := by decide +kernel
theorem dX3_times_0 : decode cX3_times 0 = .ok (.aload_n 0, 1) := by decide +kernel
theorem dX3_times_1 : decode cX3_times 1 = .ok (.iload_n 1, 1) := by decide +kernel
theorem dX3_times_2 : decode cX3_times 2 = .ok (.invokevirtual 46, 3) := by decide +kernel
theorem dX3_times_5 : decode cX3_times 5 = .ok (.ifCond .eq 11, 3) := by decide +kernel
theorem dX3_times_8 : decode cX3_times 8 = .ok (.aload_n 0, 1) := by decide +kernel
theorem dX3_times_9 : decode cX3_times 9 = .ok (.iload_n 2, 1) := by decide +kernel
theorem dX3_times_10 : decode cX3_times 10 = .ok (.invokevirtual 46, 3) := by decide +kernel
theorem dX3_times_13 : decode cX3_times 13 = .ok (.ifCond .ne 5, 3) := by decide +kernel
theorem dX3_times_16 : decode cX3_times 16 = .ok (.iconst (-1), 1) := by decide +kernel
theorem dX3_times_17 : decode cX3_times 17 = .ok (.ireturn, 1) := by decide +kernel
theorem dX3_times_18 : decode cX3_times 18 = .ok (.aload_n 0, 1) := by decide +kernel
theorem dX3_times_19 : decode cX3_times 19 = .ok (.getfield 49, 3) := by decide +kernel
theorem dX3_times_22 : decode cX3_times 22 = .ok (.iload_n 1, 1) := by decide +kernel
theorem dX3_times_23 : decode cX3_times 23 = .ok (.iload_n 2, 1) := by decide +kernel
theorem dX3_times_24 : decode cX3_times 24 = .ok (.invokevirtual 57, 3) := by decide +kernel
theorem dX3_times_27 : decode cX3_times 27 = .ok (.ireturn, 1) := by decide +kernel
theorem dX3_over_0 : decode cX3_over 0 = .ok (.aload_n 0, 1) := by decide +kernel
theorem dX3_over_1 : decode cX3_over 1 = .ok (.iload_n 1, 1) := by decide +kernel
theorem dX3_over_2 : decode cX3_over 2 = .ok (.invokevirtual 46, 3) := by decide +kernel
theorem dX3_over_5 : decode cX3_over 5 = .ok (.ifCond .ne 5, 3) := by decide +kernel
theorem dX3_over_8 : decode cX3_over 8 = .ok (.iconst (-1), 1) := by decide +kernel
theorem dX3_over_9 : decode cX3_over 9 = .ok (.ireturn, 1) := by decide +kernel
theorem dX3_over_10 : decode cX3_over 10 = .ok (.iload_n 1, 1) := by decide +kernel
theorem dX3_over_11 : decode cX3_over 11 = .ok (.ifCond .ne 6, 3) := by decide +kernel
theorem dX3_over_14 : decode cX3_over 14 = .ok (.bipush (-2), 2) := by decide +kernel
theorem dX3_over_16 : decode cX3_over 16 = .ok (.ireturn, 1) := by decide +kernel
theorem dX3_over_17 : decode cX3_over 17 = .ok (.aload_n 0, 1) := by decide +kernel
theorem dX3_over_18 : decode cX3_over 18 = .ok (.getfield 49, 3) := by decide +kernel
theorem dX3_over_21 : decode cX3_over 21 = .ok (.iload_n 1, 1) := by decide +kernel
theorem dX3_over_22 : decode cX3_over 22 = .ok (.invokevirtual 60, 3) := by decide +kernel
theorem dX3_over_25 : decode cX3_over 25 = .ok (.ireturn, 1) := by decide +kernel
theorem dX3_set_0 : decode cX3_set 0 = .ok (.iload_n 1, 1) := by decide +kernel
theorem dX3_set_1 : decode cX3_set 1 = .ok (.invokestatic 64, 3) := by decide +kernel
theorem dX3_set_4 : decode cX3_set 4 = .ok (.ifCond .eq 19, 3) := by decide +kernel
theorem dX3_set_7 : decode cX3_set 7 = .ok (.aload_n 0, 1) := by decide +kernel
theorem dX3_set_8 : decode cX3_set 8 = .ok (.iload_n 2, 1) := by decide +kernel
theorem dX3_set_9 : decode cX3_set 9 = .ok (.invokevirtual 46, 3) := by decide +kernel
theorem dX3_set_12 : decode cX3_set 12 = .ok (.ifCond .eq 11, 3) := by decide +kernel
theorem dX3_set_15 : decode cX3_set 15 = .ok (.aload_n 0, 1) := by decide +kernel
theorem dX3_set_16 : decode cX3_set 16 = .ok (.iload_n 3, 1) := by decide +kernel
theorem dX3_set_17 : decode cX3_set 17 = .ok (.invokevirtual 46, 3) := by decide +kernel
theorem dX3_set_20 : decode cX3_set 20 = .ok (.ifCond .ne 5, 3) := by decide +kernel
theorem dX3_set_23 : decode cX3_set 23 = .ok (.iconst (-1), 1) := by decide +kernel
theorem dX3_set_24 : decode cX3_set 24 = .ok (.ireturn, 1) := by decide +kernel
theorem dX3_set_25 : decode cX3_set 25 = .ok (.aload_n 0, 1) := by decide +kernel
theorem dX3_set_26 : decode cX3_set 26 = .ok (.getfield 17, 3) := by decide +kernel
theorem dX3_set_29 : decode cX3_set 29 = .ok (.iload_n 1, 1) := by decide +kernel
theorem dX3_set_30 : decode cX3_set 30 = .ok (.aaload, 1) := by decide +kernel
theorem dX3_set_31 : decode cX3_set 31 = .ok (.iload_n 2, 1) := by decide +kernel
theorem dX3_set_32 : decode cX3_set 32 = .ok (.iaload, 1) := by decide +kernel
theorem dX3_set_33 : decode cX3_set 33 = .ok (.istore 4, 2) := by decide +kernel
theorem dX3_set_35 : decode cX3_set 35 = .ok (.aload_n 0, 1) := by decide +kernel
theorem dX3_set_36 : decode cX3_set 36 = .ok (.getfield 17, 3) := by decide +kernel
theorem dX3_set_39 : decode cX3_set 39 = .ok (.iload_n 1, 1) := by decide +kernel
theorem dX3_set_40 : decode cX3_set 40 = .ok (.aaload, 1) := by decide +kernel
theorem dX3_set_41 : decode cX3_set 41 = .ok (.iload_n 2, 1) := by decide +kernel
theorem dX3_set_42 : decode cX3_set 42 = .ok (.iload_n 3, 1) := by decide +kernel
theorem dX3_set_43 : decode cX3_set 43 = .ok (.iastore, 1) := by decide +kernel
theorem dX3_set_44 : decode cX3_set 44 = .ok (.iload 4, 2) := by decide +kernel
theorem dX3_set_46 : decode cX3_set 46 = .ok (.ireturn, 1) := by decide +kernel
theorem dX3_at_0 : decode cX3_at 0 = .ok (.iload_n 1, 1) := by decide +kernel
theorem dX3_at_1 : decode cX3_at 1 = .ok (.invokestatic 64, 3) := by decide +kernel
theorem dX3_at_4 : decode cX3_at 4 = .ok (.ifCond .eq 11, 3) := by decide +kernel
theorem dX3_at_7 : decode cX3_at 7 = .ok (.aload_n 0, 1) := by decide +kernel
theorem dX3_at_8 : decode cX3_at 8 = .ok (.iload_n 2, 1) := by decide +kernel
theorem dX3_at_9 : decode cX3_at 9 = .ok (.invokevirtual 46, 3) := by decide +kernel
theorem dX3_at_12 : decode cX3_at 12 = .ok (.ifCond .ne 5, 3) := by decide +kernel
theorem dX3_at_15 : decode cX3_at 15 = .ok (.iconst (-1), 1) := by decide +kernel
theorem dX3_at_16 : decode cX3_at 16 = .ok (.ireturn, 1) := by decide +kernel
theorem dX3_at_17 : decode cX3_at 17 = .ok (.aload_n 0, 1) := by decide +kernel
theorem dX3_at_18 : decode cX3_at 18 = .ok (.getfield 17, 3) := by decide +kernel
theorem dX3_at_21 : decode cX3_at 21 = .ok (.iload_n 1, 1) := by decide +kernel
theorem dX3_at_22 : decode cX3_at 22 = .ok (.aaload, 1) := by decide +kernel
theorem dX3_at_23 : decode cX3_at 23 = .ok (.iload_n 2, 1) := by decide +kernel
theorem dX3_at_24 : decode cX3_at 24 = .ok (.iaload, 1) := by decide +kernel
theorem dX3_at_25 : decode cX3_at 25 = .ok (.ireturn, 1) := by decide +kernel
theorem dX3_coefficient_0 : decode cX3_coefficient 0 = .ok (.iload_n 1, 1) := by decide +kernel
theorem dX3_coefficient_1 : decode cX3_coefficient 1 = .ok (.invokestatic 64, 3) := by decide +kernel
theorem dX3_coefficient_4 : decode cX3_coefficient 4 = .ok (.ifCond .eq 11, 3) := by decide +kernel
theorem dX3_coefficient_7 : decode cX3_coefficient 7 = .ok (.aload_n 0, 1) := by decide +kernel
theorem dX3_coefficient_8 : decode cX3_coefficient 8 = .ok (.iload_n 2, 1) := by decide +kernel
theorem dX3_coefficient_9 : decode cX3_coefficient 9 = .ok (.invokevirtual 46, 3) := by decide +kernel
theorem dX3_coefficient_12 : decode cX3_coefficient 12 = .ok (.ifCond .ne 5, 3) := by decide +kernel
theorem dX3_coefficient_15 : decode cX3_coefficient 15 = .ok (.iconst (-1), 1) := by decide +kernel
theorem dX3_coefficient_16 : decode cX3_coefficient 16 = .ok (.ireturn, 1) := by decide +kernel
theorem dX3_coefficient_17 : decode cX3_coefficient 17 = .ok (.aload_n 0, 1) := by decide +kernel
theorem dX3_coefficient_18 : decode cX3_coefficient 18 = .ok (.aload_n 0, 1) := by decide +kernel
theorem dX3_coefficient_19 : decode cX3_coefficient 19 = .ok (.getfield 17, 3) := by decide +kernel
theorem dX3_coefficient_22 : decode cX3_coefficient 22 = .ok (.iload_n 1, 1) := by decide +kernel
theorem dX3_coefficient_23 : decode cX3_coefficient 23 = .ok (.aaload, 1) := by decide +kernel
theorem dX3_coefficient_24 : decode cX3_coefficient 24 = .ok (.iload_n 2, 1) := by decide +kernel
theorem dX3_coefficient_25 : decode cX3_coefficient 25 = .ok (.invokevirtual 67, 3) := by decide +kernel
theorem dX3_coefficient_28 : decode cX3_coefficient 28 = .ok (.ireturn, 1) := by decide +kernel
theorem dX3_change_0 : decode cX3_change 0 = .ok (.iload_n 1, 1) := by decide +kernel
theorem dX3_change_1 : decode cX3_change 1 = .ok (.invokestatic 64, 3) := by decide +kernel
theorem dX3_change_4 : decode cX3_change 4 = .ok (.ifCond .eq 19, 3) := by decide +kernel
theorem dX3_change_7 : decode cX3_change 7 = .ok (.aload_n 0, 1) := by decide +kernel
theorem dX3_change_8 : decode cX3_change 8 = .ok (.iload_n 2, 1) := by decide +kernel
theorem dX3_change_9 : decode cX3_change 9 = .ok (.invokevirtual 46, 3) := by decide +kernel
theorem dX3_change_12 : decode cX3_change 12 = .ok (.ifCond .eq 11, 3) := by decide +kernel
theorem dX3_change_15 : decode cX3_change 15 = .ok (.aload_n 0, 1) := by decide +kernel
theorem dX3_change_16 : decode cX3_change 16 = .ok (.iload_n 3, 1) := by decide +kernel
theorem dX3_change_17 : decode cX3_change 17 = .ok (.invokevirtual 46, 3) := by decide +kernel
theorem dX3_change_20 : decode cX3_change 20 = .ok (.ifCond .ne 5, 3) := by decide +kernel
theorem dX3_change_23 : decode cX3_change 23 = .ok (.iconst (-1), 1) := by decide +kernel
theorem dX3_change_24 : decode cX3_change 24 = .ok (.ireturn, 1) := by decide +kernel
theorem dX3_change_25 : decode cX3_change 25 = .ok (.aload_n 0, 1) := by decide +kernel
theorem dX3_change_26 : decode cX3_change 26 = .ok (.getfield 17, 3) := by decide +kernel
theorem dX3_change_29 : decode cX3_change 29 = .ok (.iload_n 1, 1) := by decide +kernel
theorem dX3_change_30 : decode cX3_change 30 = .ok (.aaload, 1) := by decide +kernel
theorem dX3_change_31 : decode cX3_change 31 = .ok (.astore 4, 2) := by decide +kernel
theorem dX3_change_33 : decode cX3_change 33 = .ok (.aload_n 0, 1) := by decide +kernel
theorem dX3_change_34 : decode cX3_change 34 = .ok (.aload 4, 2) := by decide +kernel
theorem dX3_change_36 : decode cX3_change 36 = .ok (.iload_n 2, 1) := by decide +kernel
theorem dX3_change_37 : decode cX3_change 37 = .ok (.invokevirtual 67, 3) := by decide +kernel
theorem dX3_change_40 : decode cX3_change 40 = .ok (.istore 5, 2) := by decide +kernel
theorem dX3_change_42 : decode cX3_change 42 = .ok (.aload_n 0, 1) := by decide +kernel
theorem dX3_change_43 : decode cX3_change 43 = .ok (.getfield 49, 3) := by decide +kernel
theorem dX3_change_46 : decode cX3_change 46 = .ok (.iload_n 3, 1) := by decide +kernel
theorem dX3_change_47 : decode cX3_change 47 = .ok (.iload 5, 2) := by decide +kernel
theorem dX3_change_49 : decode cX3_change 49 = .ok (.invokevirtual 71, 3) := by decide +kernel
theorem dX3_change_52 : decode cX3_change 52 = .ok (.istore 6, 2) := by decide +kernel
theorem dX3_change_54 : decode cX3_change 54 = .ok (.iconst 0, 1) := by decide +kernel
theorem dX3_change_55 : decode cX3_change 55 = .ok (.istore 7, 2) := by decide +kernel
theorem dX3_change_57 : decode cX3_change 57 = .ok (.iload 7, 2) := by decide +kernel
theorem dX3_change_59 : decode cX3_change 59 = .ok (.aload_n 0, 1) := by decide +kernel
theorem dX3_change_60 : decode cX3_change 60 = .ok (.getfield 42, 3) := by decide +kernel
theorem dX3_change_63 : decode cX3_change 63 = .ok (.if_icmp .ge 45, 3) := by decide +kernel
theorem dX3_change_66 : decode cX3_change 66 = .ok (.aload 4, 2) := by decide +kernel
theorem dX3_change_68 : decode cX3_change 68 = .ok (.iload 7, 2) := by decide +kernel
theorem dX3_change_70 : decode cX3_change 70 = .ok (.aload_n 0, 1) := by decide +kernel
theorem dX3_change_71 : decode cX3_change 71 = .ok (.getfield 49, 3) := by decide +kernel
theorem dX3_change_74 : decode cX3_change 74 = .ok (.aload 4, 2) := by decide +kernel
theorem dX3_change_76 : decode cX3_change 76 = .ok (.iload 7, 2) := by decide +kernel
theorem dX3_change_78 : decode cX3_change 78 = .ok (.iaload, 1) := by decide +kernel
theorem dX3_change_79 : decode cX3_change 79 = .ok (.aload_n 0, 1) := by decide +kernel
theorem dX3_change_80 : decode cX3_change 80 = .ok (.getfield 49, 3) := by decide +kernel
theorem dX3_change_83 : decode cX3_change 83 = .ok (.iload 6, 2) := by decide +kernel
theorem dX3_change_85 : decode cX3_change 85 = .ok (.aload_n 0, 1) := by decide +kernel
theorem dX3_change_86 : decode cX3_change 86 = .ok (.getfield 49, 3) := by decide +kernel
theorem dX3_change_89 : decode cX3_change 89 = .ok (.iload 7, 2) := by decide +kernel
theorem dX3_change_91 : decode cX3_change 91 = .ok (.iload_n 2, 1) := by decide +kernel
theorem dX3_change_92 : decode cX3_change 92 = .ok (.invokevirtual 74, 3) := by decide +kernel
theorem dX3_change_95 : decode cX3_change 95 = .ok (.invokevirtual 57, 3) := by decide +kernel
theorem dX3_change_98 : decode cX3_change 98 = .ok (.invokevirtual 53, 3) := by decide +kernel
theorem dX3_change_101 : decode cX3_change 101 = .ok (.iastore, 1) := by decide +kernel
theorem dX3_change_102 : decode cX3_change 102 = .ok (.iinc 7 1, 3) := by decide +kernel
theorem dX3_change_105 : decode cX3_change 105 = .ok (.goto (-48), 3) := by decide +kernel
theorem dX3_change_108 : decode cX3_change 108 = .ok (.iload 5, 2) := by decide +kernel
theorem dX3_change_110 : decode cX3_change 110 = .ok (.ireturn, 1) := by decide +kernel
theorem dX3_degree_0 : decode cX3_degree 0 = .ok (.iload_n 1, 1) := by decide +kernel
theorem dX3_degree_1 : decode cX3_degree 1 = .ok (.invokestatic 64, 3) := by decide +kernel
theorem dX3_degree_4 : decode cX3_degree 4 = .ok (.ifCond .ne 5, 3) := by decide +kernel
theorem dX3_degree_7 : decode cX3_degree 7 = .ok (.iconst (-1), 1) := by decide +kernel
theorem dX3_degree_8 : decode cX3_degree 8 = .ok (.ireturn, 1) := by decide +kernel
theorem dX3_degree_9 : decode cX3_degree 9 = .ok (.aload_n 0, 1) := by decide +kernel
theorem dX3_degree_10 : decode cX3_degree 10 = .ok (.getfield 42, 3) := by decide +kernel
theorem dX3_degree_13 : decode cX3_degree 13 = .ok (.iconst 1, 1) := by decide +kernel
theorem dX3_degree_14 : decode cX3_degree 14 = .ok (.isub, 1) := by decide +kernel
theorem dX3_degree_15 : decode cX3_degree 15 = .ok (.istore_n 2, 1) := by decide +kernel
theorem dX3_degree_16 : decode cX3_degree 16 = .ok (.iload_n 2, 1) := by decide +kernel
theorem dX3_degree_17 : decode cX3_degree 17 = .ok (.ifCond .lt 25, 3) := by decide +kernel
theorem dX3_degree_20 : decode cX3_degree 20 = .ok (.aload_n 0, 1) := by decide +kernel
theorem dX3_degree_21 : decode cX3_degree 21 = .ok (.aload_n 0, 1) := by decide +kernel
theorem dX3_degree_22 : decode cX3_degree 22 = .ok (.getfield 17, 3) := by decide +kernel
theorem dX3_degree_25 : decode cX3_degree 25 = .ok (.iload_n 1, 1) := by decide +kernel
theorem dX3_degree_26 : decode cX3_degree 26 = .ok (.aaload, 1) := by decide +kernel
theorem dX3_degree_27 : decode cX3_degree 27 = .ok (.iload_n 2, 1) := by decide +kernel
theorem dX3_degree_28 : decode cX3_degree 28 = .ok (.invokevirtual 67, 3) := by decide +kernel
theorem dX3_degree_31 : decode cX3_degree 31 = .ok (.ifCond .eq 5, 3) := by decide +kernel
theorem dX3_degree_34 : decode cX3_degree 34 = .ok (.iload_n 2, 1) := by decide +kernel
theorem dX3_degree_35 : decode cX3_degree 35 = .ok (.ireturn, 1) := by decide +kernel
theorem dX3_degree_36 : decode cX3_degree 36 = .ok (.iinc 2 (-1), 3) := by decide +kernel
theorem dX3_degree_39 : decode cX3_degree 39 = .ok (.goto (-23), 3) := by decide +kernel
theorem dX3_degree_42 : decode cX3_degree 42 = .ok (.bipush (-9), 2) := by decide +kernel
theorem dX3_degree_44 : decode cX3_degree 44 = .ok (.ireturn, 1) := by decide +kernel
theorem dX3_make_0 : decode cX3_make 0 = .ok (.iload_n 1, 1) := by decide +kernel
theorem dX3_make_1 : decode cX3_make 1 = .ok (.invokestatic 64, 3) := by decide +kernel
theorem dX3_make_4 : decode cX3_make 4 = .ok (.ifCond .eq 18, 3) := by decide +kernel
theorem dX3_make_7 : decode cX3_make 7 = .ok (.aload_n 0, 1) := by decide +kernel
theorem dX3_make_8 : decode cX3_make 8 = .ok (.iload_n 2, 1) := by decide +kernel
theorem dX3_make_9 : decode cX3_make 9 = .ok (.iload_n 3, 1) := by decide +kernel
theorem dX3_make_10 : decode cX3_make 10 = .ok (.iload 4, 2) := by decide +kernel
theorem dX3_make_12 : decode cX3_make 12 = .ok (.iload 5, 2) := by decide +kernel
theorem dX3_make_14 : decode cX3_make 14 = .ok (.iload 6, 2) := by decide +kernel
theorem dX3_make_16 : decode cX3_make 16 = .ok (.invokevirtual 77, 3) := by decide +kernel
theorem dX3_make_19 : decode cX3_make 19 = .ok (.ifCond .ne 5, 3) := by decide +kernel
theorem dX3_make_22 : decode cX3_make 22 = .ok (.iconst (-1), 1) := by decide +kernel
theorem dX3_make_23 : decode cX3_make 23 = .ok (.ireturn, 1) := by decide +kernel
theorem dX3_make_24 : decode cX3_make 24 = .ok (.aload_n 0, 1) := by decide +kernel
theorem dX3_make_25 : decode cX3_make 25 = .ok (.getfield 30, 3) := by decide +kernel
theorem dX3_make_28 : decode cX3_make 28 = .ok (.iload_n 3, 1) := by decide +kernel
theorem dX3_make_29 : decode cX3_make 29 = .ok (.iload 4, 2) := by decide +kernel
theorem dX3_make_31 : decode cX3_make 31 = .ok (.iload 5, 2) := by decide +kernel
theorem dX3_make_33 : decode cX3_make 33 = .ok (.iload 6, 2) := by decide +kernel
theorem dX3_make_35 : decode cX3_make 35 = .ok (.invokevirtual 81, 3) := by decide +kernel
theorem dX3_make_38 : decode cX3_make 38 = .ok (.iconst 0, 1) := by decide +kernel
theorem dX3_make_39 : decode cX3_make 39 = .ok (.istore 7, 2) := by decide +kernel
theorem dX3_make_41 : decode cX3_make 41 = .ok (.iload 7, 2) := by decide +kernel
theorem dX3_make_43 : decode cX3_make 43 = .ok (.aload_n 0, 1) := by decide +kernel
theorem dX3_make_44 : decode cX3_make 44 = .ok (.getfield 42, 3) := by decide +kernel
theorem dX3_make_47 : decode cX3_make 47 = .ok (.if_icmp .ge 32, 3) := by decide +kernel
theorem dX3_make_50 : decode cX3_make 50 = .ok (.aload_n 0, 1) := by decide +kernel
theorem dX3_make_51 : decode cX3_make 51 = .ok (.getfield 17, 3) := by decide +kernel
theorem dX3_make_54 : decode cX3_make 54 = .ok (.iload_n 1, 1) := by decide +kernel
theorem dX3_make_55 : decode cX3_make 55 = .ok (.aaload, 1) := by decide +kernel
theorem dX3_make_56 : decode cX3_make 56 = .ok (.iload 7, 2) := by decide +kernel
theorem dX3_make_58 : decode cX3_make 58 = .ok (.aload_n 0, 1) := by decide +kernel
theorem dX3_make_59 : decode cX3_make 59 = .ok (.getfield 30, 3) := by decide +kernel
theorem dX3_make_62 : decode cX3_make 62 = .ok (.aload_n 0, 1) := by decide +kernel
theorem dX3_make_63 : decode cX3_make 63 = .ok (.getfield 49, 3) := by decide +kernel
theorem dX3_make_66 : decode cX3_make 66 = .ok (.iload_n 2, 1) := by decide +kernel
theorem dX3_make_67 : decode cX3_make 67 = .ok (.iload 7, 2) := by decide +kernel
theorem dX3_make_69 : decode cX3_make 69 = .ok (.invokevirtual 85, 3) := by decide +kernel
theorem dX3_make_72 : decode cX3_make 72 = .ok (.iastore, 1) := by decide +kernel
theorem dX3_make_73 : decode cX3_make 73 = .ok (.iinc 7 1, 3) := by decide +kernel
theorem dX3_make_76 : decode cX3_make 76 = .ok (.goto (-35), 3) := by decide +kernel
theorem dX3_make_79 : decode cX3_make 79 = .ok (.iconst 1, 1) := by decide +kernel
theorem dX3_make_80 : decode cX3_make 80 = .ok (.ireturn, 1) := by decide +kernel
theorem dX3_taste_0 : decode cX3_taste 0 = .ok (.aload_n 0, 1) := by decide +kernel
theorem dX3_taste_1 : decode cX3_taste 1 = .ok (.iload_n 1, 1) := by decide +kernel
theorem dX3_taste_2 : decode cX3_taste 2 = .ok (.iload_n 2, 1) := by decide +kernel
theorem dX3_taste_3 : decode cX3_taste 3 = .ok (.iload_n 3, 1) := by decide +kernel
theorem dX3_taste_4 : decode cX3_taste 4 = .ok (.iload 4, 2) := by decide +kernel
theorem dX3_taste_6 : decode cX3_taste 6 = .ok (.iload 5, 2) := by decide +kernel
theorem dX3_taste_8 : decode cX3_taste 8 = .ok (.invokevirtual 77, 3) := by decide +kernel
theorem dX3_taste_11 : decode cX3_taste 11 = .ok (.ifCond .eq 12, 3) := by decide +kernel
theorem dX3_taste_14 : decode cX3_taste 14 = .ok (.aload_n 0, 1) := by decide +kernel
theorem dX3_taste_15 : decode cX3_taste 15 = .ok (.iload 6, 2) := by decide +kernel
theorem dX3_taste_17 : decode cX3_taste 17 = .ok (.invokevirtual 46, 3) := by decide +kernel
theorem dX3_taste_20 : decode cX3_taste 20 = .ok (.ifCond .ne 5, 3) := by decide +kernel
theorem dX3_taste_23 : decode cX3_taste 23 = .ok (.iconst (-1), 1) := by decide +kernel
theorem dX3_taste_24 : decode cX3_taste 24 = .ok (.ireturn, 1) := by decide +kernel
theorem dX3_taste_25 : decode cX3_taste 25 = .ok (.aload_n 0, 1) := by decide +kernel
theorem dX3_taste_26 : decode cX3_taste 26 = .ok (.getfield 30, 3) := by decide +kernel
theorem dX3_taste_29 : decode cX3_taste 29 = .ok (.iload_n 2, 1) := by decide +kernel
theorem dX3_taste_30 : decode cX3_taste 30 = .ok (.iload_n 3, 1) := by decide +kernel
theorem dX3_taste_31 : decode cX3_taste 31 = .ok (.iload 4, 2) := by decide +kernel
theorem dX3_taste_33 : decode cX3_taste 33 = .ok (.iload 5, 2) := by decide +kernel
theorem dX3_taste_35 : decode cX3_taste 35 = .ok (.invokevirtual 81, 3) := by decide +kernel
theorem dX3_taste_38 : decode cX3_taste 38 = .ok (.aload_n 0, 1) := by decide +kernel
theorem dX3_taste_39 : decode cX3_taste 39 = .ok (.getfield 30, 3) := by decide +kernel
theorem dX3_taste_42 : decode cX3_taste 42 = .ok (.aload_n 0, 1) := by decide +kernel
theorem dX3_taste_43 : decode cX3_taste 43 = .ok (.getfield 49, 3) := by decide +kernel
theorem dX3_taste_46 : decode cX3_taste 46 = .ok (.iload_n 1, 1) := by decide +kernel
theorem dX3_taste_47 : decode cX3_taste 47 = .ok (.iload 6, 2) := by decide +kernel
theorem dX3_taste_49 : decode cX3_taste 49 = .ok (.invokevirtual 85, 3) := by decide +kernel
theorem dX3_taste_52 : decode cX3_taste 52 = .ok (.istore 7, 2) := by decide +kernel
theorem dX3_taste_54 : decode cX3_taste 54 = .ok (.aload_n 0, 1) := by decide +kernel
theorem dX3_taste_55 : decode cX3_taste 55 = .ok (.dup, 1) := by decide +kernel
theorem dX3_taste_56 : decode cX3_taste 56 = .ok (.getfield 89, 3) := by decide +kernel
theorem dX3_taste_59 : decode cX3_taste 59 = .ok (.aload_n 0, 1) := by decide +kernel
theorem dX3_taste_60 : decode cX3_taste 60 = .ok (.getfield 30, 3) := by decide +kernel
theorem dX3_taste_63 : decode cX3_taste 63 = .ok (.getfield 93, 3) := by decide +kernel
theorem dX3_taste_66 : decode cX3_taste 66 = .ok (.i2l, 1) := by decide +kernel
theorem dX3_taste_67 : decode cX3_taste 67 = .ok (.ladd, 1) := by decide +kernel
theorem dX3_taste_68 : decode cX3_taste 68 = .ok (.putfield 89, 3) := by decide +kernel
theorem dX3_taste_71 : decode cX3_taste 71 = .ok (.iload 7, 2) := by decide +kernel
theorem dX3_taste_73 : decode cX3_taste 73 = .ok (.ireturn, 1) := by decide +kernel
theorem dX3_chain_0 : decode cX3_chain 0 = .ok (.iload_n 1, 1) := by decide +kernel
theorem dX3_chain_1 : decode cX3_chain 1 = .ok (.invokestatic 64, 3) := by decide +kernel
theorem dX3_chain_4 : decode cX3_chain 4 = .ok (.ifCond .eq 17, 3) := by decide +kernel
theorem dX3_chain_7 : decode cX3_chain 7 = .ok (.iload_n 2, 1) := by decide +kernel
theorem dX3_chain_8 : decode cX3_chain 8 = .ok (.invokestatic 64, 3) := by decide +kernel
theorem dX3_chain_11 : decode cX3_chain 11 = .ok (.ifCond .eq 10, 3) := by decide +kernel
theorem dX3_chain_14 : decode cX3_chain 14 = .ok (.iload_n 3, 1) := by decide +kernel
theorem dX3_chain_15 : decode cX3_chain 15 = .ok (.invokestatic 64, 3) := by decide +kernel
theorem dX3_chain_18 : decode cX3_chain 18 = .ok (.ifCond .ne 5, 3) := by decide +kernel
theorem dX3_chain_21 : decode cX3_chain 21 = .ok (.iconst (-1), 1) := by decide +kernel
theorem dX3_chain_22 : decode cX3_chain 22 = .ok (.ireturn, 1) := by decide +kernel
theorem dX3_chain_23 : decode cX3_chain 23 = .ok (.iconst 0, 1) := by decide +kernel
theorem dX3_chain_24 : decode cX3_chain 24 = .ok (.istore 4, 2) := by decide +kernel
theorem dX3_chain_26 : decode cX3_chain 26 = .ok (.iload 4, 2) := by decide +kernel
theorem dX3_chain_28 : decode cX3_chain 28 = .ok (.aload_n 0, 1) := by decide +kernel
theorem dX3_chain_29 : decode cX3_chain 29 = .ok (.getfield 42, 3) := by decide +kernel
theorem dX3_chain_32 : decode cX3_chain 32 = .ok (.if_icmp .ge 32, 3) := by decide +kernel
theorem dX3_chain_35 : decode cX3_chain 35 = .ok (.aload_n 0, 1) := by decide +kernel
theorem dX3_chain_36 : decode cX3_chain 36 = .ok (.getfield 20, 3) := by decide +kernel
theorem dX3_chain_39 : decode cX3_chain 39 = .ok (.iload 4, 2) := by decide +kernel
theorem dX3_chain_41 : decode cX3_chain 41 = .ok (.aload_n 0, 1) := by decide +kernel
theorem dX3_chain_42 : decode cX3_chain 42 = .ok (.getfield 17, 3) := by decide +kernel
theorem dX3_chain_45 : decode cX3_chain 45 = .ok (.iload_n 2, 1) := by decide +kernel
theorem dX3_chain_46 : decode cX3_chain 46 = .ok (.aaload, 1) := by decide +kernel
theorem dX3_chain_47 : decode cX3_chain 47 = .ok (.aload_n 0, 1) := by decide +kernel
theorem dX3_chain_48 : decode cX3_chain 48 = .ok (.getfield 17, 3) := by decide +kernel
theorem dX3_chain_51 : decode cX3_chain 51 = .ok (.iload_n 3, 1) := by decide +kernel
theorem dX3_chain_52 : decode cX3_chain 52 = .ok (.aaload, 1) := by decide +kernel
theorem dX3_chain_53 : decode cX3_chain 53 = .ok (.iload 4, 2) := by decide +kernel
theorem dX3_chain_55 : decode cX3_chain 55 = .ok (.iaload, 1) := by decide +kernel
theorem dX3_chain_56 : decode cX3_chain 56 = .ok (.iaload, 1) := by decide +kernel
theorem dX3_chain_57 : decode cX3_chain 57 = .ok (.iastore, 1) := by decide +kernel
theorem dX3_chain_58 : decode cX3_chain 58 = .ok (.iinc 4 1, 3) := by decide +kernel
theorem dX3_chain_61 : decode cX3_chain 61 = .ok (.goto (-35), 3) := by decide +kernel
theorem dX3_chain_64 : decode cX3_chain 64 = .ok (.aload_n 0, 1) := by decide +kernel
theorem dX3_chain_65 : decode cX3_chain 65 = .ok (.iload_n 1, 1) := by decide +kernel
theorem dX3_chain_66 : decode cX3_chain 66 = .ok (.invokevirtual 95, 3) := by decide +kernel
theorem dX3_chain_69 : decode cX3_chain 69 = .ok (.iconst 1, 1) := by decide +kernel
theorem dX3_chain_70 : decode cX3_chain 70 = .ok (.ireturn, 1) := by decide +kernel
theorem dX3_shuffles_0 : decode cX3_shuffles 0 = .ok (.iload_n 1, 1) := by decide +kernel
theorem dX3_shuffles_1 : decode cX3_shuffles 1 = .ok (.invokestatic 64, 3) := by decide +kernel
theorem dX3_shuffles_4 : decode cX3_shuffles 4 = .ok (.ifCond .ne 5, 3) := by decide +kernel
theorem dX3_shuffles_7 : decode cX3_shuffles 7 = .ok (.iconst (-1), 1) := by decide +kernel
theorem dX3_shuffles_8 : decode cX3_shuffles 8 = .ok (.ireturn, 1) := by decide +kernel
theorem dX3_shuffles_9 : decode cX3_shuffles 9 = .ok (.aload_n 0, 1) := by decide +kernel
theorem dX3_shuffles_10 : decode cX3_shuffles 10 = .ok (.aload_n 0, 1) := by decide +kernel
theorem dX3_shuffles_11 : decode cX3_shuffles 11 = .ok (.getfield 17, 3) := by decide +kernel
theorem dX3_shuffles_14 : decode cX3_shuffles 14 = .ok (.iload_n 1, 1) := by decide +kernel
theorem dX3_shuffles_15 : decode cX3_shuffles 15 = .ok (.aaload, 1) := by decide +kernel
theorem dX3_shuffles_16 : decode cX3_shuffles 16 = .ok (.invokevirtual 98, 3) := by decide +kernel
theorem dX3_shuffles_19 : decode cX3_shuffles 19 = .ok (.invokestatic 102, 3) := by decide +kernel
theorem dX3_shuffles_22 : decode cX3_shuffles 22 = .ok (.ireturn, 1) := by decide +kernel
theorem dX3_fails_0 : decode cX3_fails 0 = .ok (.iload_n 1, 1) := by decide +kernel
theorem dX3_fails_1 : decode cX3_fails 1 = .ok (.invokestatic 64, 3) := by decide +kernel
theorem dX3_fails_4 : decode cX3_fails 4 = .ok (.ifCond .ne 5, 3) := by decide +kernel
theorem dX3_fails_7 : decode cX3_fails 7 = .ok (.iconst (-1), 1) := by decide +kernel
theorem dX3_fails_8 : decode cX3_fails 8 = .ok (.ireturn, 1) := by decide +kernel
theorem dX3_fails_9 : decode cX3_fails 9 = .ok (.aload_n 0, 1) := by decide +kernel
theorem dX3_fails_10 : decode cX3_fails 10 = .ok (.getfield 17, 3) := by decide +kernel
theorem dX3_fails_13 : decode cX3_fails 13 = .ok (.iload_n 1, 1) := by decide +kernel
theorem dX3_fails_14 : decode cX3_fails 14 = .ok (.aaload, 1) := by decide +kernel
theorem dX3_fails_15 : decode cX3_fails 15 = .ok (.astore_n 2, 1) := by decide +kernel
theorem dX3_fails_16 : decode cX3_fails 16 = .ok (.aload_n 0, 1) := by decide +kernel
theorem dX3_fails_17 : decode cX3_fails 17 = .ok (.getfield 20, 3) := by decide +kernel
theorem dX3_fails_20 : decode cX3_fails 20 = .ok (.iconst 1, 1) := by decide +kernel
theorem dX3_fails_21 : decode cX3_fails 21 = .ok (.invokestatic 106, 3) := by decide +kernel
theorem dX3_fails_24 : decode cX3_fails 24 = .ok (.iconst 1, 1) := by decide +kernel
theorem dX3_fails_25 : decode cX3_fails 25 = .ok (.istore_n 3, 1) := by decide +kernel
theorem dX3_fails_26 : decode cX3_fails 26 = .ok (.iload_n 3, 1) := by decide +kernel
theorem dX3_fails_27 : decode cX3_fails 27 = .ok (.aload_n 0, 1) := by decide +kernel
