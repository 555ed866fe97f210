theorem dX10_hasNumber_0 : decode cX10_hasNumber 0 = .ok (.aload_n 0, 1) := by decide +kernel
theorem dX10_hasNumber_1 : decode cX10_hasNumber 1 = .ok (.getfield 29, 3) := by decide +kernel
theorem dX10_hasNumber_4 : decode cX10_hasNumber 4 = .ok (.sipush 200, 3) := by decide +kernel
theorem dX10_hasNumber_7 : decode cX10_hasNumber 7 = .ok (.iload_n 1, 1) := by decide +kernel
theorem dX10_hasNumber_8 : decode cX10_hasNumber 8 = .ok (.imul, 1) := by decide +kernel
theorem dX10_hasNumber_9 : decode cX10_hasNumber 9 = .ok (.iload_n 2, 1) := by decide +kernel
theorem dX10_hasNumber_10 : decode cX10_hasNumber 10 = .ok (.iadd, 1) := by decide +kernel
theorem dX10_hasNumber_11 : decode cX10_hasNumber 11 = .ok (.iaload, 1) := by decide +kernel
theorem dX10_hasNumber_12 : decode cX10_hasNumber 12 = .ok (.ifCond .le 7, 3) := by decide +kernel
theorem dX10_hasNumber_15 : decode cX10_hasNumber 15 = .ok (.iconst 1, 1) := by decide +kernel
theorem dX10_hasNumber_16 : decode cX10_hasNumber 16 = .ok (.goto 4, 3) := by decide +kernel
theorem dX10_hasNumber_19 : decode cX10_hasNumber 19 = .ok (.iconst 0, 1) := by decide +kernel
theorem dX10_hasNumber_20 : decode cX10_hasNumber 20 = .ok (.ireturn, 1) := by decide +kernel
theorem dX10_isMeant_0 : decode cX10_isMeant 0 = .ok (.iload_n 2, 1) := by decide +kernel
theorem dX10_isMeant_1 : decode cX10_isMeant 1 = .ok (.ifCond .le 39, 3) := by decide +kernel
theorem dX10_isMeant_4 : decode cX10_isMeant 4 = .ok (.aload_n 0, 1) := by decide +kernel
theorem dX10_isMeant_5 : decode cX10_isMeant 5 = .ok (.getfield 29, 3) := by decide +kernel
theorem dX10_isMeant_8 : decode cX10_isMeant 8 = .ok (.sipush 200, 3) := by decide +kernel
theorem dX10_isMeant_11 : decode cX10_isMeant 11 = .ok (.iload_n 1, 1) := by decide +kernel
theorem dX10_isMeant_12 : decode cX10_isMeant 12 = .ok (.imul, 1) := by decide +kernel
theorem dX10_isMeant_13 : decode cX10_isMeant 13 = .ok (.iload_n 3, 1) := by decide +kernel
theorem dX10_isMeant_14 : decode cX10_isMeant 14 = .ok (.iadd, 1) := by decide +kernel
theorem dX10_isMeant_15 : decode cX10_isMeant 15 = .ok (.iaload, 1) := by decide +kernel
theorem dX10_isMeant_16 : decode cX10_isMeant 16 = .ok (.iload_n 2, 1) := by decide +kernel
theorem dX10_isMeant_17 : decode cX10_isMeant 17 = .ok (.if_icmp .eq 19, 3) := by decide +kernel
theorem dX10_isMeant_20 : decode cX10_isMeant 20 = .ok (.aload_n 0, 1) := by decide +kernel
theorem dX10_isMeant_21 : decode cX10_isMeant 21 = .ok (.getfield 32, 3) := by decide +kernel
theorem dX10_isMeant_24 : decode cX10_isMeant 24 = .ok (.sipush 200, 3) := by decide +kernel
theorem dX10_isMeant_27 : decode cX10_isMeant 27 = .ok (.iload_n 1, 1) := by decide +kernel
theorem dX10_isMeant_28 : decode cX10_isMeant 28 = .ok (.imul, 1) := by decide +kernel
theorem dX10_isMeant_29 : decode cX10_isMeant 29 = .ok (.iload_n 3, 1) := by decide +kernel
theorem dX10_isMeant_30 : decode cX10_isMeant 30 = .ok (.iadd, 1) := by decide +kernel
theorem dX10_isMeant_31 : decode cX10_isMeant 31 = .ok (.iaload, 1) := by decide +kernel
theorem dX10_isMeant_32 : decode cX10_isMeant 32 = .ok (.iload_n 2, 1) := by decide +kernel
theorem dX10_isMeant_33 : decode cX10_isMeant 33 = .ok (.if_icmp .ne 7, 3) := by decide +kernel
theorem dX10_isMeant_36 : decode cX10_isMeant 36 = .ok (.iconst 1, 1) := by decide +kernel
theorem dX10_isMeant_37 : decode cX10_isMeant 37 = .ok (.goto 4, 3) := by decide +kernel
theorem dX10_isMeant_40 : decode cX10_isMeant 40 = .ok (.iconst 0, 1) := by decide +kernel
theorem dX10_isMeant_41 : decode cX10_isMeant 41 = .ok (.ireturn, 1) := by decide +kernel
theorem dX10_clears_0 : decode cX10_clears 0 = .ok (.iconst 0, 1) := by decide +kernel
theorem dX10_clears_1 : decode cX10_clears 1 = .ok (.istore_n 1, 1) := by decide +kernel
theorem dX10_clears_2 : decode cX10_clears 2 = .ok (.iload_n 1, 1) := by decide +kernel
theorem dX10_clears_3 : decode cX10_clears 3 = .ok (.aload_n 0, 1) := by decide +kernel
theorem dX10_clears_4 : decode cX10_clears 4 = .ok (.arraylength, 1) := by decide +kernel
theorem dX10_clears_5 : decode cX10_clears 5 = .ok (.if_icmp .ge 13, 3) := by decide +kernel
theorem dX10_clears_8 : decode cX10_clears 8 = .ok (.aload_n 0, 1) := by decide +kernel
theorem dX10_clears_9 : decode cX10_clears 9 = .ok (.iload_n 1, 1) := by decide +kernel
theorem dX10_clears_10 : decode cX10_clears 10 = .ok (.iconst 0, 1) := by decide +kernel
theorem dX10_clears_11 : decode cX10_clears 11 = .ok (.bastore, 1) := by decide +kernel
theorem dX10_clears_12 : decode cX10_clears 12 = .ok (.iinc 1 1, 3) := by decide +kernel
theorem dX10_clears_15 : decode cX10_clears 15 = .ok (.goto (-13), 3) := by decide +kernel
theorem dX10_clears_18 : decode cX10_clears 18 = .ok (.return_, 1) := by decide +kernel
theorem dX10_manyIn_0 : decode cX10_manyIn 0 = .ok (.iconst 0, 1) := by decide +kernel
theorem dX10_manyIn_1 : decode cX10_manyIn 1 = .ok (.istore_n 1, 1) := by decide +kernel
theorem dX10_manyIn_2 : decode cX10_manyIn 2 = .ok (.iconst 0, 1) := by decide +kernel
theorem dX10_manyIn_3 : decode cX10_manyIn 3 = .ok (.istore_n 2, 1) := by decide +kernel
theorem dX10_manyIn_4 : decode cX10_manyIn 4 = .ok (.iload_n 2, 1) := by decide +kernel
theorem dX10_manyIn_5 : decode cX10_manyIn 5 = .ok (.aload_n 0, 1) := by decide +kernel
theorem dX10_manyIn_6 : decode cX10_manyIn 6 = .ok (.arraylength, 1) := by decide +kernel
theorem dX10_manyIn_7 : decode cX10_manyIn 7 = .ok (.if_icmp .ge 23, 3) := by decide +kernel
theorem dX10_manyIn_10 : decode cX10_manyIn 10 = .ok (.iload_n 1, 1) := by decide +kernel
theorem dX10_manyIn_11 : decode cX10_manyIn 11 = .ok (.aload_n 0, 1) := by decide +kernel
theorem dX10_manyIn_12 : decode cX10_manyIn 12 = .ok (.iload_n 2, 1) := by decide +kernel
theorem dX10_manyIn_13 : decode cX10_manyIn 13 = .ok (.baload, 1) := by decide +kernel
theorem dX10_manyIn_14 : decode cX10_manyIn 14 = .ok (.ifCond .eq 7, 3) := by decide +kernel
theorem dX10_manyIn_17 : decode cX10_manyIn 17 = .ok (.iconst 1, 1) := by decide +kernel
theorem dX10_manyIn_18 : decode cX10_manyIn 18 = .ok (.goto 4, 3) := by decide +kernel
theorem dX10_manyIn_21 : decode cX10_manyIn 21 = .ok (.iconst 0, 1) := by decide +kernel
theorem dX10_manyIn_22 : decode cX10_manyIn 22 = .ok (.iadd, 1) := by decide +kernel
theorem dX10_manyIn_23 : decode cX10_manyIn 23 = .ok (.istore_n 1, 1) := by decide +kernel
theorem dX10_manyIn_24 : decode cX10_manyIn 24 = .ok (.iinc 2 1, 3) := by decide +kernel
theorem dX10_manyIn_27 : decode cX10_manyIn 27 = .ok (.goto (-23), 3) := by decide +kernel
theorem dX10_manyIn_30 : decode cX10_manyIn 30 = .ok (.iload_n 1, 1) := by decide +kernel
theorem dX10_manyIn_31 : decode cX10_manyIn 31 = .ok (.ireturn, 1) := by decide +kernel
theorem dX10_leastOf_0 : decode cX10_leastOf 0 = .ok (.ldc 61, 2) := by decide +kernel
theorem dX10_leastOf_2 : decode cX10_leastOf 2 = .ok (.istore_n 1, 1) := by decide +kernel
theorem dX10_leastOf_3 : decode cX10_leastOf 3 = .ok (.aload_n 0, 1) := by decide +kernel
theorem dX10_leastOf_4 : decode cX10_leastOf 4 = .ok (.arraylength, 1) := by decide +kernel
theorem dX10_leastOf_5 : decode cX10_leastOf 5 = .ok (.iconst 1, 1) := by decide +kernel
theorem dX10_leastOf_6 : decode cX10_leastOf 6 = .ok (.isub, 1) := by decide +kernel
theorem dX10_leastOf_7 : decode cX10_leastOf 7 = .ok (.istore_n 2, 1) := by decide +kernel
theorem dX10_leastOf_8 : decode cX10_leastOf 8 = .ok (.iload_n 2, 1) := by decide +kernel
theorem dX10_leastOf_9 : decode cX10_leastOf 9 = .ok (.ifCond .lt 21, 3) := by decide +kernel
theorem dX10_leastOf_12 : decode cX10_leastOf 12 = .ok (.aload_n 0, 1) := by decide +kernel
theorem dX10_leastOf_13 : decode cX10_leastOf 13 = .ok (.iload_n 2, 1) := by decide +kernel
theorem dX10_leastOf_14 : decode cX10_leastOf 14 = .ok (.baload, 1) := by decide +kernel
theorem dX10_leastOf_15 : decode cX10_leastOf 15 = .ok (.ifCond .eq 7, 3) := by decide +kernel
theorem dX10_leastOf_18 : decode cX10_leastOf 18 = .ok (.iload_n 2, 1) := by decide +kernel
theorem dX10_leastOf_19 : decode cX10_leastOf 19 = .ok (.goto 4, 3) := by decide +kernel
theorem dX10_leastOf_22 : decode cX10_leastOf 22 = .ok (.iload_n 1, 1) := by decide +kernel
theorem dX10_leastOf_23 : decode cX10_leastOf 23 = .ok (.istore_n 1, 1) := by decide +kernel
theorem dX10_leastOf_24 : decode cX10_leastOf 24 = .ok (.iinc 2 (-1), 3) := by decide +kernel
theorem dX10_leastOf_27 : decode cX10_leastOf 27 = .ok (.goto (-19), 3) := by decide +kernel
theorem dX10_leastOf_30 : decode cX10_leastOf 30 = .ok (.iload_n 1, 1) := by decide +kernel
theorem dX10_leastOf_31 : decode cX10_leastOf 31 = .ok (.ireturn, 1) := by decide +kernel
theorem dX10_greatestOf_0 : decode cX10_greatestOf 0 = .ok (.ldc 61, 2) := by decide +kernel
theorem dX10_greatestOf_2 : decode cX10_greatestOf 2 = .ok (.istore_n 1, 1) := by decide +kernel
theorem dX10_greatestOf_3 : decode cX10_greatestOf 3 = .ok (.iconst 0, 1) := by decide +kernel
theorem dX10_greatestOf_4 : decode cX10_greatestOf 4 = .ok (.istore_n 2, 1) := by decide +kernel
theorem dX10_greatestOf_5 : decode cX10_greatestOf 5 = .ok (.iload_n 2, 1) := by decide +kernel
theorem dX10_greatestOf_6 : decode cX10_greatestOf 6 = .ok (.aload_n 0, 1) := by decide +kernel
theorem dX10_greatestOf_7 : decode cX10_greatestOf 7 = .ok (.arraylength, 1) := by decide +kernel
theorem dX10_greatestOf_8 : decode cX10_greatestOf 8 = .ok (.if_icmp .ge 21, 3) := by decide +kernel
theorem dX10_greatestOf_11 : decode cX10_greatestOf 11 = .ok (.aload_n 0, 1) := by decide +kernel
theorem dX10_greatestOf_12 : decode cX10_greatestOf 12 = .ok (.iload_n 2, 1) := by decide +kernel
theorem dX10_greatestOf_13 : decode cX10_greatestOf 13 = .ok (.baload, 1) := by decide +kernel
theorem dX10_greatestOf_14 : decode cX10_greatestOf 14 = .ok (.ifCond .eq 7, 3) := by decide +kernel
theorem dX10_greatestOf_17 : decode cX10_greatestOf 17 = .ok (.iload_n 2, 1) := by decide +kernel
theorem dX10_greatestOf_18 : decode cX10_greatestOf 18 = .ok (.goto 4, 3) := by decide +kernel
theorem dX10_greatestOf_21 : decode cX10_greatestOf 21 = .ok (.iload_n 1, 1) := by decide +kernel
theorem dX10_greatestOf_22 : decode cX10_greatestOf 22 = .ok (.istore_n 1, 1) := by decide +kernel
theorem dX10_greatestOf_23 : decode cX10_greatestOf 23 = .ok (.iinc 2 1, 3) := by decide +kernel
theorem dX10_greatestOf_26 : decode cX10_greatestOf 26 = .ok (.goto (-21), 3) := by decide +kernel
theorem dX10_greatestOf_29 : decode cX10_greatestOf 29 = .ok (.iload_n 1, 1) := by decide +kernel
theorem dX10_greatestOf_30 : decode cX10_greatestOf 30 = .ok (.ireturn, 1) := by decide +kernel
theorem dX10_told_0 : decode cX10_told 0 = .ok (.iload_n 1, 1) := by decide +kernel
theorem dX10_told_1 : decode cX10_told 1 = .ok (.ifCond .ne 10, 3) := by decide +kernel
theorem dX10_told_4 : decode cX10_told 4 = .ok (.aload_n 0, 1) := by decide +kernel
theorem dX10_told_5 : decode cX10_told 5 = .ok (.invokestatic 77, 3) := by decide +kernel
theorem dX10_told_8 : decode cX10_told 8 = .ok (.goto 19, 3) := by decide +kernel
theorem dX10_told_11 : decode cX10_told 11 = .ok (.iload_n 1, 1) := by decide +kernel
theorem dX10_told_12 : decode cX10_told 12 = .ok (.iconst 1, 1) := by decide +kernel
theorem dX10_told_13 : decode cX10_told 13 = .ok (.if_icmp .ne 10, 3) := by decide +kernel
theorem dX10_told_16 : decode cX10_told 16 = .ok (.aload_n 0, 1) := by decide +kernel
theorem dX10_told_17 : decode cX10_told 17 = .ok (.invokestatic 81, 3) := by decide +kernel
theorem dX10_told_20 : decode cX10_told 20 = .ok (.goto 7, 3) := by decide +kernel
theorem dX10_told_23 : decode cX10_told 23 = .ok (.aload_n 0, 1) := by decide +kernel
theorem dX10_told_24 : decode cX10_told 24 = .ok (.invokestatic 84, 3) := by decide +kernel
theorem dX10_told_27 : decode cX10_told 27 = .ok (.ireturn, 1) := by decide +kernel
theorem dX10_comes_0 : decode cX10_comes 0 = .ok (.iconst 0, 1) := by decide +kernel
theorem dX10_comes_1 : decode cX10_comes 1 = .ok (.istore 5, 2) := by decide +kernel
theorem dX10_comes_3 : decode cX10_comes 3 = .ok (.iload 5, 2) := by decide +kernel
theorem dX10_comes_5 : decode cX10_comes 5 = .ok (.aload_n 0, 1) := by decide +kernel
theorem dX10_comes_6 : decode cX10_comes 6 = .ok (.getfield 7, 3) := by decide +kernel
theorem dX10_comes_9 : decode cX10_comes 9 = .ok (.iconst 0, 1) := by decide +kernel
theorem dX10_comes_10 : decode cX10_comes 10 = .ok (.iaload, 1) := by decide +kernel
theorem dX10_comes_11 : decode cX10_comes 11 = .ok (.if_icmp .ge 64, 3) := by decide +kernel
theorem dX10_comes_14 : decode cX10_comes 14 = .ok (.aload_n 0, 1) := by decide +kernel
theorem dX10_comes_15 : decode cX10_comes 15 = .ok (.iload_n 1, 1) := by decide +kernel
theorem dX10_comes_16 : decode cX10_comes 16 = .ok (.iload_n 2, 1) := by decide +kernel
theorem dX10_comes_17 : decode cX10_comes 17 = .ok (.iload 5, 2) := by decide +kernel
theorem dX10_comes_19 : decode cX10_comes 19 = .ok (.invokevirtual 69, 3) := by decide +kernel
theorem dX10_comes_22 : decode cX10_comes 22 = .ok (.ifCond .eq 47, 3) := by decide +kernel
theorem dX10_comes_25 : decode cX10_comes 25 = .ok (.aload_n 0, 1) := by decide +kernel
theorem dX10_comes_26 : decode cX10_comes 26 = .ok (.iload_n 3, 1) := by decide +kernel
theorem dX10_comes_27 : decode cX10_comes 27 = .ok (.iload 5, 2) := by decide +kernel
theorem dX10_comes_29 : decode cX10_comes 29 = .ok (.invokevirtual 73, 3) := by decide +kernel
theorem dX10_comes_32 : decode cX10_comes 32 = .ok (.ifCond .eq 37, 3) := by decide +kernel
theorem dX10_comes_35 : decode cX10_comes 35 = .ok (.aload 4, 2) := by decide +kernel
theorem dX10_comes_37 : decode cX10_comes 37 = .ok (.aload_n 0, 1) := by decide +kernel
theorem dX10_comes_38 : decode cX10_comes 38 = .ok (.getfield 29, 3) := by decide +kernel
theorem dX10_comes_41 : decode cX10_comes 41 = .ok (.sipush 200, 3) := by decide +kernel
theorem dX10_comes_44 : decode cX10_comes 44 = .ok (.iload_n 3, 1) := by decide +kernel
theorem dX10_comes_45 : decode cX10_comes 45 = .ok (.imul, 1) := by decide +kernel
theorem dX10_comes_46 : decode cX10_comes 46 = .ok (.iload 5, 2) := by decide +kernel
theorem dX10_comes_48 : decode cX10_comes 48 = .ok (.iadd, 1) := by decide +kernel
theorem dX10_comes_49 : decode cX10_comes 49 = .ok (.iaload, 1) := by decide +kernel
theorem dX10_comes_50 : decode cX10_comes 50 = .ok (.iconst 1, 1) := by decide +kernel
theorem dX10_comes_51 : decode cX10_comes 51 = .ok (.bastore, 1) := by decide +kernel
theorem dX10_comes_52 : decode cX10_comes 52 = .ok (.aload 4, 2) := by decide +kernel
theorem dX10_comes_54 : decode cX10_comes 54 = .ok (.aload_n 0, 1) := by decide +kernel
theorem dX10_comes_55 : decode cX10_comes 55 = .ok (.getfield 32, 3) := by decide +kernel
theorem dX10_comes_58 : decode cX10_comes 58 = .ok (.sipush 200, 3) := by decide +kernel
theorem dX10_comes_61 : decode cX10_comes 61 = .ok (.iload_n 3, 1) := by decide +kernel
theorem dX10_comes_62 : decode cX10_comes 62 = .ok (.imul, 1) := by decide +kernel
theorem dX10_comes_63 : decode cX10_comes 63 = .ok (.iload 5, 2) := by decide +kernel
theorem dX10_comes_65 : decode cX10_comes 65 = .ok (.iadd, 1) := by decide +kernel
theorem dX10_comes_66 : decode cX10_comes 66 = .ok (.iaload, 1) := by decide +kernel
theorem dX10_comes_67 : decode cX10_comes 67 = .ok (.iconst 1, 1) := by decide +kernel
theorem dX10_comes_68 : decode cX10_comes 68 = .ok (.bastore, 1) := by decide +kernel
theorem dX10_comes_69 : decode cX10_comes 69 = .ok (.iinc 5 1, 3) := by decide +kernel
theorem dX10_comes_72 : decode cX10_comes 72 = .ok (.goto (-69), 3) := by decide +kernel
theorem dX10_comes_75 : decode cX10_comes 75 = .ok (.return_, 1) := by decide +kernel
theorem dX10_goes_0 : decode cX10_goes 0 = .ok (.aload_n 0, 1) := by decide +kernel
theorem dX10_goes_1 : decode cX10_goes 1 = .ok (.getfield 38, 3) := by decide +kernel
theorem dX10_goes_4 : decode cX10_goes 4 = .ok (.invokestatic 87, 3) := by decide +kernel
theorem dX10_goes_7 : decode cX10_goes 7 = .ok (.aload_n 0, 1) := by decide +kernel
theorem dX10_goes_8 : decode cX10_goes 8 = .ok (.iload_n 1, 1) := by decide +kernel
theorem dX10_goes_9 : decode cX10_goes 9 = .ok (.iload_n 2, 1) := by decide +kernel
theorem dX10_goes_10 : decode cX10_goes 10 = .ok (.iload_n 3, 1) := by decide +kernel
theorem dX10_goes_11 : decode cX10_goes 11 = .ok (.aload_n 0, 1) := by decide +kernel
theorem dX10_goes_12 : decode cX10_goes 12 = .ok (.getfield 38, 3) := by decide +kernel
theorem dX10_goes_15 : decode cX10_goes 15 = .ok (.invokevirtual 91, 3) := by decide +kernel
theorem dX10_goes_18 : decode cX10_goes 18 = .ok (.aload_n 0, 1) := by decide +kernel
theorem dX10_goes_19 : decode cX10_goes 19 = .ok (.getfield 35, 3) := by decide +kernel
theorem dX10_goes_22 : decode cX10_goes 22 = .ok (.invokestatic 87, 3) := by decide +kernel
theorem dX10_goes_25 : decode cX10_goes 25 = .ok (.iconst 1, 1) := by decide +kernel
theorem dX10_goes_26 : decode cX10_goes 26 = .ok (.istore 5, 2) := by decide +kernel
theorem dX10_goes_28 : decode cX10_goes 28 = .ok (.iload 5, 2) := by decide +kernel
theorem dX10_goes_30 : decode cX10_goes 30 = .ok (.sipush 1000, 3) := by decide +kernel
theorem dX10_goes_33 : decode cX10_goes 33 = .ok (.if_icmp .ge 32, 3) := by decide +kernel
theorem dX10_goes_36 : decode cX10_goes 36 = .ok (.aload_n 0, 1) := by decide +kernel
theorem dX10_goes_37 : decode cX10_goes 37 = .ok (.getfield 38, 3) := by decide +kernel
theorem dX10_goes_40 : decode cX10_goes 40 = .ok (.iload 5, 2) := by decide +kernel
theorem dX10_goes_42 : decode cX10_goes 42 = .ok (.baload, 1) := by decide +kernel
theorem dX10_goes_43 : decode cX10_goes 43 = .ok (.ifCond .eq 16, 3) := by decide +kernel
theorem dX10_goes_46 : decode cX10_goes 46 = .ok (.aload_n 0, 1) := by decide +kernel
theorem dX10_goes_47 : decode cX10_goes 47 = .ok (.iload_n 3, 1) := by decide +kernel
theorem dX10_goes_48 : decode cX10_goes 48 = .ok (.iload 5, 2) := by decide +kernel
theorem dX10_goes_50 : decode cX10_goes 50 = .ok (.iload 4, 2) := by decide +kernel
theorem dX10_goes_52 : decode cX10_goes 52 = .ok (.aload_n 0, 1) := by decide +kernel
theorem dX10_goes_53 : decode cX10_goes 53 = .ok (.getfield 35, 3) := by decide +kernel
theorem dX10_goes_56 : decode cX10_goes 56 = .ok (.invokevirtual 91, 3) := by decide +kernel
theorem dX10_goes_59 : decode cX10_goes 59 = .ok (.iinc 5 1, 3) := by decide +kernel
theorem dX10_goes_62 : decode cX10_goes 62 = .ok (.goto (-34), 3) := by decide +kernel
theorem dX10_goes_65 : decode cX10_goes 65 = .ok (.return_, 1) := by decide +kernel
theorem dX10_laysNumbers_0 : decode cX10_laysNumbers 0 = .ok (.aload_n 2, 1) := by decide +kernel
theorem dX10_laysNumbers_1 : decode cX10_laysNumbers 1 = .ok (.invokestatic 87, 3) := by decide +kernel
theorem dX10_laysNumbers_4 : decode cX10_laysNumbers 4 = .ok (.iconst 0, 1) := by decide +kernel
theorem dX10_laysNumbers_5 : decode cX10_laysNumbers 5 = .ok (.istore_n 3, 1) := by decide +kernel
theorem dX10_laysNumbers_6 : decode cX10_laysNumbers 6 = .ok (.iload_n 3, 1) := by decide +kernel
theorem dX10_laysNumbers_7 : decode cX10_laysNumbers 7 = .ok (.aload_n 0, 1) := by decide +kernel
theorem dX10_laysNumbers_8 : decode cX10_laysNumbers 8 = .ok (.getfield 7, 3) := by decide +kernel
theorem dX10_laysNumbers_11 : decode cX10_laysNumbers 11 = .ok (.iconst 0, 1) := by decide +kernel
theorem dX10_laysNumbers_12 : decode cX10_laysNumbers 12 = .ok (.iaload, 1) := by decide +kernel
theorem dX10_laysNumbers_13 : decode cX10_laysNumbers 13 = .ok (.if_icmp .ge 48, 3) := by decide +kernel
theorem dX10_laysNumbers_16 : decode cX10_laysNumbers 16 = .ok (.aload_n 0, 1) := by decide +kernel
theorem dX10_laysNumbers_17 : decode cX10_laysNumbers 17 = .ok (.iload_n 1, 1) := by decide +kernel
theorem dX10_laysNumbers_18 : decode cX10_laysNumbers 18 = .ok (.iload_n 3, 1) := by decide +kernel
theorem dX10_laysNumbers_19 : decode cX10_laysNumbers 19 = .ok (.invokevirtual 73, 3) := by decide +kernel
theorem dX10_laysNumbers_22 : decode cX10_laysNumbers 22 = .ok (.ifCond .eq 33, 3) := by decide +kernel
theorem dX10_laysNumbers_25 : decode cX10_laysNumbers 25 = .ok (.aload_n 2, 1) := by decide +kernel
theorem dX10_laysNumbers_26 : decode cX10_laysNumbers 26 = .ok (.aload_n 0, 1) := by decide +kernel
theorem dX10_laysNumbers_27 : decode cX10_laysNumbers 27 = .ok (.getfield 29, 3) := by decide +kernel
theorem dX10_laysNumbers_30 : decode cX10_laysNumbers 30 = .ok (.sipush 200, 3) := by decide +kernel
theorem dX10_laysNumbers_33 : decode cX10_laysNumbers 33 = .ok (.iload_n 1, 1) := by decide +kernel
theorem dX10_laysNumbers_34 : decode cX10_laysNumbers 34 = .ok (.imul, 1) := by decide +kernel
theorem dX10_laysNumbers_35 : decode cX10_laysNumbers 35 = .ok (.iload_n 3, 1) := by decide +kernel
theorem dX10_laysNumbers_36 : decode cX10_laysNumbers 36 = .ok (.iadd, 1) := by decide +kernel
theorem dX10_laysNumbers_37 : decode cX10_laysNumbers 37 = .ok (.iaload, 1) := by decide +kernel
theorem dX10_laysNumbers_38 : decode cX10_laysNumbers 38 = .ok (.iconst 1, 1) := by decide +kernel
theorem dX10_laysNumbers_39 : decode cX10_laysNumbers 39 = .ok (.bastore, 1) := by decide +kernel
theorem dX10_laysNumbers_40 : decode cX10_laysNumbers 40 = .ok (.aload_n 2, 1) := by decide +kernel
theorem dX10_laysNumbers_41 : decode cX10_laysNumbers 41 = .ok (.aload_n 0, 1) := by decide +kernel
theorem dX10_laysNumbers_42 : decode cX10_laysNumbers 42 = .ok (.getfield 32, 3) := by decide +kernel
theorem dX10_laysNumbers_45 : decode cX10_laysNumbers 45 = .ok (.sipush 200, 3) := by decide +kernel
theorem dX10_laysNumbers_48 : decode cX10_laysNumbers 48 = .ok (.iload_n 1, 1) := by decide +kernel
theorem dX10_laysNumbers_49 : decode cX10_laysNumbers 49 = .ok (.imul, 1) := by decide +kernel
theorem dX10_laysNumbers_50 : decode cX10_laysNumbers 50 = .ok (.iload_n 3, 1) := by decide +kernel
theorem dX10_laysNumbers_51 : decode cX10_laysNumbers 51 = .ok (.iadd, 1) := by decide +kernel
theorem dX10_laysNumbers_52 : decode cX10_laysNumbers 52 = .ok (.iaload, 1) := by decide +kernel
theorem dX10_laysNumbers_53 : decode cX10_laysNumbers 53 = .ok (.iconst 1, 1) := by decide +kernel
theorem dX10_laysNumbers_54 : decode cX10_laysNumbers 54 = .ok (.bastore, 1) := by decide +kernel
theorem dX10_laysNumbers_55 : decode cX10_laysNumbers 55 = .ok (.iinc 3 1, 3) := by decide +kernel
theorem dX10_laysNumbers_58 : decode cX10_laysNumbers 58 = .ok (.goto (-52), 3) := by decide +kernel
theorem dX10_laysNumbers_61 : decode cX10_laysNumbers 61 = .ok (.return_, 1) := by decide +kernel
theorem dX10_linesWith_0 : decode cX10_linesWith 0 = .ok (.iconst 0, 1) := by decide +kernel
theorem dX10_linesWith_1 : decode cX10_linesWith 1 = .ok (.istore_n 2, 1) := by decide +kernel
theorem dX10_linesWith_2 : decode cX10_linesWith 2 = .ok (.iconst 0, 1) := by decide +kernel
theorem dX10_linesWith_3 : decode cX10_linesWith 3 = .ok (.istore_n 3, 1) := by decide +kernel
theorem dX10_linesWith_4 : decode cX10_linesWith 4 = .ok (.iload_n 3, 1) := by decide +kernel
theorem dX10_linesWith_5 : decode cX10_linesWith 5 = .ok (.aload_n 0, 1) := by decide +kernel
theorem dX10_linesWith_6 : decode cX10_linesWith 6 = .ok (.getfield 7, 3) := by decide +kernel
theorem dX10_linesWith_9 : decode cX10_linesWith 9 = .ok (.iconst 0, 1) := by decide +kernel
theorem dX10_linesWith_10 : decode cX10_linesWith 10 = .ok (.iaload, 1) := by decide +kernel
theorem dX10_linesWith_11 : decode cX10_linesWith 11 = .ok (.if_icmp .ge 26, 3) := by decide +kernel
theorem dX10_linesWith_14 : decode cX10_linesWith 14 = .ok (.iload_n 2, 1) := by decide +kernel
theorem dX10_linesWith_15 : decode cX10_linesWith 15 = .ok (.aload_n 0, 1) := by decide +kernel
theorem dX10_linesWith_16 : decode cX10_linesWith 16 = .ok (.iload_n 1, 1) := by decide +kernel
theorem dX10_linesWith_17 : decode cX10_linesWith 17 = .ok (.iload_n 3, 1) := by decide +kernel
theorem dX10_linesWith_18 : decode cX10_linesWith 18 = .ok (.invokevirtual 73, 3) := by decide +kernel
theorem dX10_linesWith_21 : decode cX10_linesWith 21 = .ok (.ifCond .eq 7, 3) := by decide +kernel
theorem dX10_linesWith_24 : decode cX10_linesWith 24 = .ok (.iconst 1, 1) := by decide +kernel
theorem dX10_linesWith_25 : decode cX10_linesWith 25 = .ok (.goto 4, 3) := by decide +kernel
theorem dX10_linesWith_28 : decode cX10_linesWith 28 = .ok (.iconst 0, 1) := by decide +kernel
theorem dX10_linesWith_29 : decode cX10_linesWith 29 = .ok (.iadd, 1) := by decide +kernel
theorem dX10_linesWith_30 : decode cX10_linesWith 30 = .ok (.istore_n 2, 1) := by decide +kernel
theorem dX10_linesWith_31 : decode cX10_linesWith 31 = .ok (.iinc 3 1, 3) := by decide +kernel
theorem dX10_linesWith_34 : decode cX10_linesWith 34 = .ok (.goto (-30), 3) := by decide +kernel
theorem dX10_linesWith_37 : decode cX10_linesWith 37 = .ok (.iload_n 2, 1) := by decide +kernel
theorem dX10_linesWith_38 : decode cX10_linesWith 38 = .ok (.ireturn, 1) := by decide +kernel
theorem dX10_meantBy_0 : decode cX10_meantBy 0 = .ok (.iconst 0, 1) := by decide +kernel
theorem dX10_meantBy_1 : decode cX10_meantBy 1 = .ok (.istore 4, 2) := by decide +kernel
theorem dX10_meantBy_3 : decode cX10_meantBy 3 = .ok (.ldc 61, 2) := by decide +kernel
theorem dX10_meantBy_5 : decode cX10_meantBy 5 = .ok (.istore 5, 2) := by decide +kernel
theorem dX10_meantBy_7 : decode cX10_meantBy 7 = .ok (.ldc 61, 2) := by decide +kernel
theorem dX10_meantBy_9 : decode cX10_meantBy 9 = .ok (.istore 6, 2) := by decide +kernel
theorem dX10_meantBy_11 : decode cX10_meantBy 11 = .ok (.iconst 0, 1) := by decide +kernel
theorem dX10_meantBy_12 : decode cX10_meantBy 12 = .ok (.istore 7, 2) := by decide +kernel
theorem dX10_meantBy_14 : decode cX10_meantBy 14 = .ok (.iload 7, 2) := by decide +kernel
theorem dX10_meantBy_16 : decode cX10_meantBy 16 = .ok (.aload_n 0, 1) := by decide +kernel
theorem dX10_meantBy_17 : decode cX10_meantBy 17 = .ok (.getfield 7, 3) := by decide +kernel
theorem dX10_meantBy_20 : decode cX10_meantBy 20 = .ok (.iconst 0, 1) := by decide +kernel
theorem dX10_meantBy_21 : decode cX10_meantBy 21 = .ok (.iaload, 1) := by decide +kernel
theorem dX10_meantBy_22 : decode cX10_meantBy 22 = .ok (.if_icmp .ge 41, 3) := by decide +kernel
theorem dX10_meantBy_25 : decode cX10_meantBy 25 = .ok (.aload_n 0, 1) := by decide +kernel
theorem dX10_meantBy_26 : decode cX10_meantBy 26 = .ok (.iload_n 1, 1) := by decide +kernel
theorem dX10_meantBy_27 : decode cX10_meantBy 27 = .ok (.iload_n 2, 1) := by decide +kernel
theorem dX10_meantBy_28 : decode cX10_meantBy 28 = .ok (.iload 7, 2) := by decide +kernel
theorem dX10_meantBy_30 : decode cX10_meantBy 30 = .ok (.invokevirtual 69, 3) := by decide +kernel
theorem dX10_meantBy_33 : decode cX10_meantBy 33 = .ok (.ifCond .eq 24, 3) := by decide +kernel
theorem dX10_meantBy_36 : decode cX10_meantBy 36 = .ok (.iload 4, 2) := by decide +kernel
theorem dX10_meantBy_38 : decode cX10_meantBy 38 = .ok (.ifCond .ne 8, 3) := by decide +kernel
theorem dX10_meantBy_41 : decode cX10_meantBy 41 = .ok (.iload 7, 2) := by decide +kernel
theorem dX10_meantBy_43 : decode cX10_meantBy 43 = .ok (.goto 5, 3) := by decide +kernel
theorem dX10_meantBy_46 : decode cX10_meantBy 46 = .ok (.iload 5, 2) := by decide +kernel
theorem dX10_meantBy_48 : decode cX10_meantBy 48 = .ok (.istore 5, 2) := by decide +kernel
theorem dX10_meantBy_50 : decode cX10_meantBy 50 = .ok (.iload 7, 2) := by decide +kernel
theorem dX10_meantBy_52 : decode cX10_meantBy 52 = .ok (.istore 6, 2) := by decide +kernel
theorem dX10_meantBy_54 : decode cX10_meantBy 54 = .ok (.iinc 4 1, 3) := by decide +kernel
theorem dX10_meantBy_57 : decode cX10_meantBy 57 = .ok (.iinc 7 1, 3) := by decide +kernel
theorem dX10_meantBy_60 : decode cX10_meantBy 60 = .ok (.goto (-46), 3) := by decide +kernel
theorem dX10_meantBy_63 : decode cX10_meantBy 63 = .ok (.iload_n 3, 1) := by decide +kernel
theorem dX10_meantBy_64 : decode cX10_meantBy 64 = .ok (.ifCond .ne 8, 3) := by decide +kernel
theorem dX10_meantBy_67 : decode cX10_meantBy 67 = .ok (.iload 4, 2) := by decide +kernel
theorem dX10_meantBy_69 : decode cX10_meantBy 69 = .ok (.goto 15, 3) := by decide +kernel
theorem dX10_meantBy_72 : decode cX10_meantBy 72 = .ok (.iload_n 3, 1) := by decide +kernel
theorem dX10_meantBy_73 : decode cX10_meantBy 73 = .ok (.iconst 1, 1) := by decide +kernel
theorem dX10_meantBy_74 : decode cX10_meantBy 74 = .ok (.if_icmp .ne 8, 3) := by decide +kernel
theorem dX10_meantBy_77 : decode cX10_meantBy 77 = .ok (.iload 5, 2) := by decide +kernel
theorem dX10_meantBy_79 : decode cX10_meantBy 79 = .ok (.goto 5, 3) := by decide +kernel
theorem dX10_meantBy_82 : decode cX10_meantBy 82 = .ok (.iload 6, 2) := by decide +kernel
theorem dX10_meantBy_84 : decode cX10_meantBy 84 = .ok (.ireturn, 1) := by decide +kernel
theorem dX10_numbersThat_0 : decode cX10_numbersThat 0 = .ok (.iconst 0, 1) := by decide +kernel
theorem dX10_numbersThat_1 : decode cX10_numbersThat 1 = .ok (.istore_n 3, 1) := by decide +kernel
theorem dX10_numbersThat_2 : decode cX10_numbersThat 2 = .ok (.iconst 1, 1) := by decide +kernel
theorem dX10_numbersThat_3 : decode cX10_numbersThat 3 = .ok (.istore 4, 2) := by decide +kernel
theorem dX10_numbersThat_5 : decode cX10_numbersThat 5 = .ok (.iload 4, 2) := by decide +kernel
theorem dX10_numbersThat_7 : decode cX10_numbersThat 7 = .ok (.sipush 1000, 3) := by decide +kernel
theorem dX10_numbersThat_10 : decode cX10_numbersThat 10 = .ok (.if_icmp .ge 76, 3) := by decide +kernel
theorem dX10_numbersThat_13 : decode cX10_numbersThat 13 = .ok (.aload_n 0, 1) := by decide +kernel
theorem dX10_numbersThat_14 : decode cX10_numbersThat 14 = .ok (.getfield 35, 3) := by decide +kernel
theorem dX10_numbersThat_17 : decode cX10_numbersThat 17 = .ok (.iload 4, 2) := by decide +kernel
theorem dX10_numbersThat_19 : decode cX10_numbersThat 19 = .ok (.baload, 1) := by decide +kernel
theorem dX10_numbersThat_20 : decode cX10_numbersThat 20 = .ok (.ifCond .eq 14, 3) := by decide +kernel
theorem dX10_numbersThat_23 : decode cX10_numbersThat 23 = .ok (.aload_n 0, 1) := by decide +kernel
theorem dX10_numbersThat_24 : decode cX10_numbersThat 24 = .ok (.iload_n 1, 1) := by decide +kernel
theorem dX10_numbersThat_25 : decode cX10_numbersThat 25 = .ok (.iload 4, 2) := by decide +kernel
theorem dX10_numbersThat_27 : decode cX10_numbersThat 27 = .ok (.iconst 0, 1) := by decide +kernel
theorem dX10_numbersThat_28 : decode cX10_numbersThat 28 = .ok (.invokevirtual 239, 3) := by decide +kernel
theorem dX10_numbersThat_31 : decode cX10_numbersThat 31 = .ok (.goto 4, 3) := by decide +kernel
theorem dX10_numbersThat_34 : decode cX10_numbersThat 34 = .ok (.iconst 0, 1) := by decide +kernel
theorem dX10_numbersThat_35 : decode cX10_numbersThat 35 = .ok (.istore 5, 2) := by decide +kernel
theorem dX10_numbersThat_37 : decode cX10_numbersThat 37 = .ok (.iload_n 3, 1) := by decide +kernel
theorem dX10_numbersThat_38 : decode cX10_numbersThat 38 = .ok (.iload 5, 2) := by decide +kernel
theorem dX10_numbersThat_40 : decode cX10_numbersThat 40 = .ok (.iconst 1, 1) := by decide +kernel
theorem dX10_numbersThat_41 : decode cX10_numbersThat 41 = .ok (.if_icmp .le 36, 3) := by decide +kernel
theorem dX10_numbersThat_44 : decode cX10_numbersThat 44 = .ok (.iload_n 2, 1) := by decide +kernel
theorem dX10_numbersThat_45 : decode cX10_numbersThat 45 = .ok (.iconst 5, 1) := by decide +kernel
theorem dX10_numbersThat_46 : decode cX10_numbersThat 46 = .ok (.if_icmp .eq 27, 3) := by decide +kernel
theorem dX10_numbersThat_49 : decode cX10_numbersThat 49 = .ok (.aload_n 0, 1) := by decide +kernel
theorem dX10_numbersThat_50 : decode cX10_numbersThat 50 = .ok (.iload_n 1, 1) := by decide +kernel
theorem dX10_numbersThat_51 : decode cX10_numbersThat 51 = .ok (.iload 4, 2) := by decide +kernel
theorem dX10_numbersThat_53 : decode cX10_numbersThat 53 = .ok (.iconst 2, 1) := by decide +kernel
theorem dX10_numbersThat_54 : decode cX10_numbersThat 54 = .ok (.invokevirtual 239, 3) := by decide +kernel
theorem dX10_numbersThat_57 : decode cX10_numbersThat 57 = .ok (.aload_n 0, 1) := by decide +kernel
theorem dX10_numbersThat_58 : decode cX10_numbersThat 58 = .ok (.iload_n 1, 1) := by decide +kernel
theorem dX10_numbersThat_59 : decode cX10_numbersThat 59 = .ok (.iload 4, 2) := by decide +kernel
theorem dX10_numbersThat_61 : decode cX10_numbersThat 61 = .ok (.iconst 1, 1) := by decide +kernel
theorem dX10_numbersThat_62 : decode cX10_numbersThat 62 = .ok (.invokevirtual 239, 3) := by decide +kernel
theorem dX10_numbersThat_65 : decode cX10_numbersThat 65 = .ok (.isub, 1) := by decide +kernel
theorem dX10_numbersThat_66 : decode cX10_numbersThat 66 = .ok (.iconst 1, 1) := by decide +kernel
theorem dX10_numbersThat_67 : decode cX10_numbersThat 67 = .ok (.iadd, 1) := by decide +kernel
theorem dX10_numbersThat_68 : decode cX10_numbersThat 68 = .ok (.iload 5, 2) := by decide +kernel
theorem dX10_numbersThat_70 : decode cX10_numbersThat 70 = .ok (.if_icmp .le 7, 3) := by decide +kernel
theorem dX10_numbersThat_73 : decode cX10_numbersThat 73 = .ok (.iconst 1, 1) := by decide +kernel
theorem dX10_numbersThat_74 : decode cX10_numbersThat 74 = .ok (.goto 4, 3) := by decide +kernel
theorem dX10_numbersThat_77 : decode cX10_numbersThat 77 = .ok (.iconst 0, 1) := by decide +kernel
theorem dX10_numbersThat_78 : decode cX10_numbersThat 78 = .ok (.iadd, 1) := by decide +kernel
theorem dX10_numbersThat_79 : decode cX10_numbersThat 79 = .ok (.istore_n 3, 1) := by decide +kernel
theorem dX10_numbersThat_80 : decode cX10_numbersThat 80 = .ok (.iinc 4 1, 3) := by decide +kernel
theorem dX10_numbersThat_83 : decode cX10_numbersThat 83 = .ok (.goto (-78), 3) := by decide +kernel
theorem dX10_numbersThat_86 : decode cX10_numbersThat 86 = .ok (.iload_n 3, 1) := by decide +kernel
theorem dX10_numbersThat_87 : decode cX10_numbersThat 87 = .ok (.ireturn, 1) := by decide +kernel
theorem dX10_cited_0 : decode cX10_cited 0 = .ok (.aload_n 0, 1) := by decide +kernel
theorem dX10_cited_1 : decode cX10_cited 1 = .ok (.getfield 7, 3) := by decide +kernel
theorem dX10_cited_4 : decode cX10_cited 4 = .ok (.sipush 128, 3) := by decide +kernel
theorem dX10_cited_7 : decode cX10_cited 7 = .ok (.iconst 5, 1) := by decide +kernel
theorem dX10_cited_8 : decode cX10_cited 8 = .ok (.iload_n 1, 1) := by decide +kernel
theorem dX10_cited_9 : decode cX10_cited 9 = .ok (.imul, 1) := by decide +kernel
theorem dX10_cited_10 : decode cX10_cited 10 = .ok (.iadd, 1) := by decide +kernel
theorem dX10_cited_11 : decode cX10_cited 11 = .ok (.iload_n 2, 1) := by decide +kernel
theorem dX10_cited_12 : decode cX10_cited 12 = .ok (.iadd, 1) := by decide +kernel
theorem dX10_cited_13 : decode cX10_cited 13 = .ok (.iaload, 1) := by decide +kernel
theorem dX10_cited_14 : decode cX10_cited 14 = .ok (.ireturn, 1) := by decide +kernel
theorem dX10_isCitation_0 : decode cX10_isCitation 0 = .ok (.iload_n 1, 1) := by decide +kernel
theorem dX10_isCitation_1 : decode cX10_isCitation 1 = .ok (.i2l, 1) := by decide +kernel
theorem dX10_isCitation_2 : decode cX10_isCitation 2 = .ok (.lconst 0, 1) := by decide +kernel
theorem dX10_isCitation_3 : decode cX10_isCitation 3 = .ok (.ldc2_w 213, 3) := by decide +kernel
theorem dX10_isCitation_6 : decode cX10_isCitation 6 = .ok (.invokestatic 51, 3) := by decide +kernel
theorem dX10_isCitation_9 : decode cX10_isCitation 9 = .ok (.ifCond .eq 17, 3) := by decide +kernel
theorem dX10_isCitation_12 : decode cX10_isCitation 12 = .ok (.aload_n 0, 1) := by decide +kernel
theorem dX10_isCitation_13 : decode cX10_isCitation 13 = .ok (.iload_n 1, 1) := by decide +kernel
theorem dX10_isCitation_14 : decode cX10_isCitation 14 = .ok (.iconst 0, 1) := by decide +kernel
theorem dX10_isCitation_15 : decode cX10_isCitation 15 = .ok (.invokevirtual 215, 3) := by decide +kernel
theorem dX10_isCitation_18 : decode cX10_isCitation 18 = .ok (.iconst 1, 1) := by decide +kernel
theorem dX10_isCitation_19 : decode cX10_isCitation 19 = .ok (.if_icmp .ne 7, 3) := by decide +kernel
theorem dX10_isCitation_22 : decode cX10_isCitation 22 = .ok (.iconst 1, 1) := by decide +kernel
theorem dX10_isCitation_23 : decode cX10_isCitation 23 = .ok (.goto 4, 3) := by decide +kernel
theorem dX10_isCitation_26 : decode cX10_isCitation 26 = .ok (.iconst 0, 1) := by decide +kernel
theorem dX10_isCitation_27 : decode cX10_isCitation 27 = .ok (.ireturn, 1) := by decide +kernel
theorem dX10_citations_0 : decode cX10_citations 0 = .ok (.iconst 0, 1) := by decide +kernel
theorem dX10_citations_1 : decode cX10_citations 1 = .ok (.istore_n 1, 1) := by decide +kernel
theorem dX10_citations_2 : decode cX10_citations 2 = .ok (.iconst 0, 1) := by decide +kernel
theorem dX10_citations_3 : decode cX10_citations 3 = .ok (.istore_n 2, 1) := by decide +kernel
theorem dX10_citations_4 : decode cX10_citations 4 = .ok (.iload_n 2, 1) := by decide +kernel
theorem dX10_citations_5 : decode cX10_citations 5 = .ok (.bipush 8, 2) := by decide +kernel
theorem dX10_citations_7 : decode cX10_citations 7 = .ok (.if_icmp .ge 18, 3) := by decide +kernel
theorem dX10_citations_10 : decode cX10_citations 10 = .ok (.iload_n 1, 1) := by decide +kernel
theorem dX10_citations_11 : decode cX10_citations 11 = .ok (.aload_n 0, 1) := by decide +kernel
theorem dX10_citations_12 : decode cX10_citations 12 = .ok (.iload_n 2, 1) := by decide +kernel
theorem dX10_citations_13 : decode cX10_citations 13 = .ok (.iconst 0, 1) := by decide +kernel
theorem dX10_citations_14 : decode cX10_citations 14 = .ok (.invokevirtual 215, 3) := by decide +kernel
theorem dX10_citations_17 : decode cX10_citations 17 = .ok (.iadd, 1) := by decide +kernel
theorem dX10_citations_18 : decode cX10_citations 18 = .ok (.istore_n 1, 1) := by decide +kernel
theorem dX10_citations_19 : decode cX10_citations 19 = .ok (.iinc 2 1, 3) := by decide +kernel
theorem dX10_citations_22 : decode cX10_citations 22 = .ok (.goto (-18), 3) := by decide +kernel
theorem dX10_citations_25 : decode cX10_citations 25 = .ok (.iload_n 1, 1) := by decide +kernel
theorem dX10_citations_26 : decode cX10_citations 26 = .ok (.ireturn, 1) := by decide +kernel
theorem dX10_allStretches_0 : decode cX10_allStretches 0 = .ok (.iconst 0, 1) := by decide +kernel
theorem dX10_allStretches_1 : decode cX10_allStretches 1 = .ok (.istore_n 1, 1) := by decide +kernel
theorem dX10_allStretches_2 : decode cX10_allStretches 2 = .ok (.iconst 0, 1) := by decide +kernel
theorem dX10_allStretches_3 : decode cX10_allStretches 3 = .ok (.istore_n 2, 1) := by decide +kernel
theorem dX10_allStretches_4 : decode cX10_allStretches 4 = .ok (.iload_n 2, 1) := by decide +kernel
theorem dX10_allStretches_5 : decode cX10_allStretches 5 = .ok (.aload_n 0, 1) := by decide +kernel
theorem dX10_allStretches_6 : decode cX10_allStretches 6 = .ok (.getfield 7, 3) := by decide +kernel
theorem dX10_allStretches_9 : decode cX10_allStretches 9 = .ok (.iconst 1, 1) := by decide +kernel
theorem dX10_allStretches_10 : decode cX10_allStretches 10 = .ok (.iaload, 1) := by decide +kernel
theorem dX10_allStretches_11 : decode cX10_allStretches 11 = .ok (.if_icmp .ge 20, 3) := by decide +kernel
theorem dX10_allStretches_14 : decode cX10_allStretches 14 = .ok (.iload_n 1, 1) := by decide +kernel
theorem dX10_allStretches_15 : decode cX10_allStretches 15 = .ok (.aload_n 0, 1) := by decide +kernel
theorem dX10_allStretches_16 : decode cX10_allStretches 16 = .ok (.getfield 7, 3) := by decide +kernel
theorem dX10_allStretches_19 : decode cX10_allStretches 19 = .ok (.iconst 3, 1) := by decide +kernel
theorem dX10_allStretches_20 : decode cX10_allStretches 20 = .ok (.iload_n 2, 1) := by decide +kernel
theorem dX10_allStretches_21 : decode cX10_allStretches 21 = .ok (.iadd, 1) := by decide +kernel
theorem dX10_allStretches_22 : decode cX10_allStretches 22 = .ok (.iaload, 1) := by decide +kernel
theorem dX10_allStretches_23 : decode cX10_allStretches 23 = .ok (.iadd, 1) := by decide +kernel
theorem dX10_allStretches_24 : decode cX10_allStretches 24 = .ok (.istore_n 1, 1) := by decide +kernel
theorem dX10_allStretches_25 : decode cX10_allStretches 25 = .ok (.iinc 2 1, 3) := by decide +kernel
theorem dX10_allStretches_28 : decode cX10_allStretches 28 = .ok (.goto (-24), 3) := by decide +kernel
theorem dX10_allStretches_31 : decode cX10_allStretches 31 = .ok (.iload_n 1, 1) := by decide +kernel
theorem dX10_allStretches_32 : decode cX10_allStretches 32 = .ok (.ireturn, 1) := by decide +kernel
theorem dX10_lastOf_0 : decode cX10_lastOf 0 = .ok (.aload_n 0, 1) := by decide +kernel
theorem dX10_lastOf_1 : decode cX10_lastOf 1 = .ok (.iload_n 1, 1) := by decide +kernel
theorem dX10_lastOf_2 : decode cX10_lastOf 2 = .ok (.iconst 2, 1) := by decide +kernel
theorem dX10_lastOf_3 : decode cX10_lastOf 3 = .ok (.invokevirtual 215, 3) := by decide +kernel
theorem dX10_lastOf_6 : decode cX10_lastOf 6 = .ok (.ifCond .ne 12, 3) := by decide +kernel
theorem dX10_lastOf_9 : decode cX10_lastOf 9 = .ok (.aload_n 0, 1) := by decide +kernel
theorem dX10_lastOf_10 : decode cX10_lastOf 10 = .ok (.iload_n 1, 1) := by decide +kernel
theorem dX10_lastOf_11 : decode cX10_lastOf 11 = .ok (.iconst 4, 1) := by decide +kernel
theorem dX10_lastOf_12 : decode cX10_lastOf 12 = .ok (.invokevirtual 215, 3) := by decide +kernel
theorem dX10_lastOf_15 : decode cX10_lastOf 15 = .ok (.goto 16, 3) := by decide +kernel
theorem dX10_lastOf_18 : decode cX10_lastOf 18 = .ok (.aload_n 0, 1) := by decide +kernel
theorem dX10_lastOf_19 : decode cX10_lastOf 19 = .ok (.iload_n 1, 1) := by decide +kernel
theorem dX10_lastOf_20 : decode cX10_lastOf 20 = .ok (.iconst 3, 1) := by decide +kernel
theorem dX10_lastOf_21 : decode cX10_lastOf 21 = .ok (.invokevirtual 215, 3) := by decide +kernel
theorem dX10_lastOf_24 : decode cX10_lastOf 24 = .ok (.aload_n 0, 1) := by decide +kernel
theorem dX10_lastOf_25 : decode cX10_lastOf 25 = .ok (.iload_n 1, 1) := by decide +kernel
theorem dX10_lastOf_26 : decode cX10_lastOf 26 = .ok (.iconst 2, 1) := by decide +kernel
theorem dX10_lastOf_27 : decode cX10_lastOf 27 = .ok (.invokevirtual 215, 3) := by decide +kernel
theorem dX10_lastOf_30 : decode cX10_lastOf 30 = .ok (.iadd, 1) := by decide +kernel
theorem dX10_lastOf_31 : decode cX10_lastOf 31 = .ok (.ireturn, 1) := by decide +kernel
theorem dX10_laysSpan_0 : decode cX10_laysSpan 0 = .ok (.aload 4, 2) := by decide +kernel
theorem dX10_laysSpan_2 : decode cX10_laysSpan 2 = .ok (.invokestatic 87, 3) := by decide +kernel
theorem dX10_laysSpan_5 : decode cX10_laysSpan 5 = .ok (.iconst 0, 1) := by decide +kernel
theorem dX10_laysSpan_6 : decode cX10_laysSpan 6 = .ok (.istore 5, 2) := by decide +kernel
theorem dX10_laysSpan_8 : decode cX10_laysSpan 8 = .ok (.iload 5, 2) := by decide +kernel
theorem dX10_laysSpan_10 : decode cX10_laysSpan 10 = .ok (.aload_n 0, 1) := by decide +kernel
theorem dX10_laysSpan_11 : decode cX10_laysSpan 11 = .ok (.getfield 7, 3) := by decide +kernel
theorem dX10_laysSpan_14 : decode cX10_laysSpan 14 = .ok (.iconst 0, 1) := by decide +kernel
theorem dX10_laysSpan_15 : decode cX10_laysSpan 15 = .ok (.iaload, 1) := by decide +kernel
theorem dX10_laysSpan_16 : decode cX10_laysSpan 16 = .ok (.if_icmp .ge 75, 3) := by decide +kernel
theorem dX10_laysSpan_19 : decode cX10_laysSpan 19 = .ok (.sipush 200, 3) := by decide +kernel
theorem dX10_laysSpan_22 : decode cX10_laysSpan 22 = .ok (.iload_n 1, 1) := by decide +kernel
theorem dX10_laysSpan_23 : decode cX10_laysSpan 23 = .ok (.imul, 1) := by decide +kernel
theorem dX10_laysSpan_24 : decode cX10_laysSpan 24 = .ok (.iload 5, 2) := by decide +kernel
theorem dX10_laysSpan_26 : decode cX10_laysSpan 26 = .ok (.iadd, 1) := by decide +kernel
theorem dX10_laysSpan_27 : decode cX10_laysSpan 27 = .ok (.istore 6, 2) := by decide +kernel
theorem dX10_laysSpan_29 : decode cX10_laysSpan 29 = .ok (.aload 4, 2) := by decide +kernel
theorem dX10_laysSpan_31 : decode cX10_laysSpan 31 = .ok (.iload 5, 2) := by decide +kernel
theorem dX10_laysSpan_33 : decode cX10_laysSpan 33 = .ok (.aload_n 0, 1) := by decide +kernel
theorem dX10_laysSpan_34 : decode cX10_laysSpan 34 = .ok (.iload_n 1, 1) := by decide +kernel
theorem dX10_laysSpan_35 : decode cX10_laysSpan 35 = .ok (.iload 5, 2) := by decide +kernel
theorem dX10_laysSpan_37 : decode cX10_laysSpan 37 = .ok (.invokevirtual 73, 3) := by decide +kernel
theorem dX10_laysSpan_40 : decode cX10_laysSpan 40 = .ok (.ifCond .eq 43, 3) := by decide +kernel
theorem dX10_laysSpan_43 : decode cX10_laysSpan 43 = .ok (.aload_n 0, 1) := by decide +kernel
theorem dX10_laysSpan_44 : decode cX10_laysSpan 44 = .ok (.getfield 29, 3) := by decide +kernel
theorem dX10_laysSpan_47 : decode cX10_laysSpan 47 = .ok (.iload 6, 2) := by decide +kernel
theorem dX10_laysSpan_49 : decode cX10_laysSpan 49 = .ok (.iaload, 1) := by decide +kernel
theorem dX10_laysSpan_50 : decode cX10_laysSpan 50 = .ok (.i2l, 1) := by decide +kernel
theorem dX10_laysSpan_51 : decode cX10_laysSpan 51 = .ok (.iload_n 2, 1) := by decide +kernel
theorem dX10_laysSpan_52 : decode cX10_laysSpan 52 = .ok (.i2l, 1) := by decide +kernel
theorem dX10_laysSpan_53 : decode cX10_laysSpan 53 = .ok (.iload_n 3, 1) := by decide +kernel
theorem dX10_laysSpan_54 : decode cX10_laysSpan 54 = .ok (.i2l, 1) := by decide +kernel
theorem dX10_laysSpan_55 : decode cX10_laysSpan 55 = .ok (.invokestatic 51, 3) := by decide +kernel
theorem dX10_laysSpan_58 : decode cX10_laysSpan 58 = .ok (.ifCond .ne 21, 3) := by decide +kernel
theorem dX10_laysSpan_61 : decode cX10_laysSpan 61 = .ok (.aload_n 0, 1) := by decide +kernel
theorem dX10_laysSpan_62 : decode cX10_laysSpan 62 = .ok (.getfield 32, 3) := by decide +kernel
theorem dX10_laysSpan_65 : decode cX10_laysSpan 65 = .ok (.iload 6, 2) := by decide +kernel
theorem dX10_laysSpan_67 : decode cX10_laysSpan 67 = .ok (.iaload, 1) := by decide +kernel
theorem dX10_laysSpan_68 : decode cX10_laysSpan 68 = .ok (.i2l, 1) := by decide +kernel
theorem dX10_laysSpan_69 : decode cX10_laysSpan 69 = .ok (.iload_n 2, 1) := by decide +kernel
theorem dX10_laysSpan_70 : decode cX10_laysSpan 70 = .ok (.i2l, 1) := by decide +kernel
theorem dX10_laysSpan_71 : decode cX10_laysSpan 71 = .ok (.iload_n 3, 1) := by decide +kernel
theorem dX10_laysSpan_72 : decode cX10_laysSpan 72 = .ok (.i2l, 1) := by decide +kernel
theorem dX10_laysSpan_73 : decode cX10_laysSpan 73 = .ok (.invokestatic 51, 3) := by decide +kernel
theorem dX10_laysSpan_76 : decode cX10_laysSpan 76 = .ok (.ifCond .eq 7, 3) := by decide +kernel
theorem dX10_laysSpan_79 : decode cX10_laysSpan 79 = .ok (.iconst 1, 1) := by decide +kernel
theorem dX10_laysSpan_80 : decode cX10_laysSpan 80 = .ok (.goto 4, 3) := by decide +kernel
theorem dX10_laysSpan_83 : decode cX10_laysSpan 83 = .ok (.iconst 0, 1) := by decide +kernel
theorem dX10_laysSpan_84 : decode cX10_laysSpan 84 = .ok (.bastore, 1) := by decide +kernel
theorem dX10_laysSpan_85 : decode cX10_laysSpan 85 = .ok (.iinc 5 1, 3) := by decide +kernel
theorem dX10_laysSpan_88 : decode cX10_laysSpan 88 = .ok (.goto (-80), 3) := by decide +kernel
theorem dX10_laysSpan_91 : decode cX10_laysSpan 91 = .ok (.return_, 1) := by decide +kernel
theorem dX10_laysLines_0 : decode cX10_laysLines 0 = .ok (.aload_n 0, 1) := by decide +kernel
theorem dX10_laysLines_1 : decode cX10_laysLines 1 = .ok (.iload_n 2, 1) := by decide +kernel
theorem dX10_laysLines_2 : decode cX10_laysLines 2 = .ok (.aload_n 0, 1) := by decide +kernel
theorem dX10_laysLines_3 : decode cX10_laysLines 3 = .ok (.iload_n 1, 1) := by decide +kernel
theorem dX10_laysLines_4 : decode cX10_laysLines 4 = .ok (.iconst 3, 1) := by decide +kernel
theorem dX10_laysLines_5 : decode cX10_laysLines 5 = .ok (.invokevirtual 215, 3) := by decide +kernel
theorem dX10_laysLines_8 : decode cX10_laysLines 8 = .ok (.aload_n 0, 1) := by decide +kernel
theorem dX10_laysLines_9 : decode cX10_laysLines 9 = .ok (.iload_n 1, 1) := by decide +kernel
theorem dX10_laysLines_10 : decode cX10_laysLines 10 = .ok (.invokevirtual 286, 3) := by decide +kernel
theorem dX10_laysLines_13 : decode cX10_laysLines 13 = .ok (.aload_n 3, 1) := by decide +kernel
theorem dX10_laysLines_14 : decode cX10_laysLines 14 = .ok (.invokevirtual 289, 3) := by decide +kernel
theorem dX10_laysLines_17 : decode cX10_laysLines 17 = .ok (.return_, 1) := by decide +kernel
theorem dX10_isMore_0 : decode cX10_isMore 0 = .ok (.aload_n 0, 1) := by decide +kernel
theorem dX10_isMore_1 : decode cX10_isMore 1 = .ok (.getfield 264, 3) := by decide +kernel
theorem dX10_isMore_4 : decode cX10_isMore 4 = .ok (.ifCond .le 40, 3) := by decide +kernel
theorem dX10_isMore_7 : decode cX10_isMore 7 = .ok (.aload_n 0, 1) := by decide +kernel
theorem dX10_isMore_8 : decode cX10_isMore 8 = .ok (.getfield 267, 3) := by decide +kernel
theorem dX10_isMore_11 : decode cX10_isMore 11 = .ok (.aload_n 0, 1) := by decide +kernel
theorem dX10_isMore_12 : decode cX10_isMore 12 = .ok (.getfield 264, 3) := by decide +kernel
theorem dX10_isMore_15 : decode cX10_isMore 15 = .ok (.iadd, 1) := by decide +kernel
theorem dX10_isMore_16 : decode cX10_isMore 16 = .ok (.iload_n 1, 1) := by decide +kernel
theorem dX10_isMore_17 : decode cX10_isMore 17 = .ok (.if_icmp .ne 27, 3) := by decide +kernel
theorem dX10_isMore_20 : decode cX10_isMore 20 = .ok (.iload_n 2, 1) := by decide +kernel
theorem dX10_isMore_21 : decode cX10_isMore 21 = .ok (.iload_n 1, 1) := by decide +kernel
theorem dX10_isMore_22 : decode cX10_isMore 22 = .ok (.isub, 1) := by decide +kernel
theorem dX10_isMore_23 : decode cX10_isMore 23 = .ok (.aload_n 0, 1) := by decide +kernel
theorem dX10_isMore_24 : decode cX10_isMore 24 = .ok (.getfield 270, 3) := by decide +kernel
theorem dX10_isMore_27 : decode cX10_isMore 27 = .ok (.if_icmp .gt 17, 3) := by decide +kernel
theorem dX10_isMore_30 : decode cX10_isMore 30 = .ok (.iload_n 3, 1) := by decide +kernel
theorem dX10_isMore_31 : decode cX10_isMore 31 = .ok (.iload_n 1, 1) := by decide +kernel
theorem dX10_isMore_32 : decode cX10_isMore 32 = .ok (.isub, 1) := by decide +kernel
theorem dX10_isMore_33 : decode cX10_isMore 33 = .ok (.aload_n 0, 1) := by decide +kernel
theorem dX10_isMore_34 : decode cX10_isMore 34 = .ok (.getfield 273, 3) := by decide +kernel
theorem dX10_isMore_37 : decode cX10_isMore 37 = .ok (.if_icmp .lt 7, 3) := by decide +kernel
theorem dX10_isMore_40 : decode cX10_isMore 40 = .ok (.iconst 1, 1) := by decide +kernel
theorem dX10_isMore_41 : decode cX10_isMore 41 = .ok (.goto 4, 3) := by decide +kernel
theorem dX10_isMore_44 : decode cX10_isMore 44 = .ok (.iconst 0, 1) := by decide +kernel
theorem dX10_isMore_45 : decode cX10_isMore 45 = .ok (.istore 4, 2) := by decide +kernel
theorem dX10_isMore_47 : decode cX10_isMore 47 = .ok (.iload 4, 2) := by decide +kernel
theorem dX10_isMore_49 : decode cX10_isMore 49 = .ok (.ifCond .eq 64, 3) := by decide +kernel
theorem dX10_isMore_52 : decode cX10_isMore 52 = .ok (.aload_n 0, 1) := by decide +kernel
theorem dX10_isMore_53 : decode cX10_isMore 53 = .ok (.iload_n 2, 1) := by decide +kernel
theorem dX10_isMore_54 : decode cX10_isMore 54 = .ok (.iload_n 1, 1) := by decide +kernel
theorem dX10_isMore_55 : decode cX10_isMore 55 = .ok (.isub, 1) := by decide +kernel
theorem dX10_isMore_56 : decode cX10_isMore 56 = .ok (.aload_n 0, 1) := by decide +kernel
theorem dX10_isMore_57 : decode cX10_isMore 57 = .ok (.getfield 273, 3) := by decide +kernel
theorem dX10_isMore_60 : decode cX10_isMore 60 = .ok (.if_icmp .le 9, 3) := by decide +kernel
theorem dX10_isMore_63 : decode cX10_isMore 63 = .ok (.iload_n 2, 1) := by decide +kernel
theorem dX10_isMore_64 : decode cX10_isMore 64 = .ok (.iload_n 1, 1) := by decide +kernel
theorem dX10_isMore_65 : decode cX10_isMore 65 = .ok (.isub, 1) := by decide +kernel
theorem dX10_isMore_66 : decode cX10_isMore 66 = .ok (.goto 7, 3) := by decide +kernel
theorem dX10_isMore_69 : decode cX10_isMore 69 = .ok (.aload_n 0, 1) := by decide +kernel
theorem dX10_isMore_70 : decode cX10_isMore 70 = .ok (.getfield 273, 3) := by decide +kernel
theorem dX10_isMore_73 : decode cX10_isMore 73 = .ok (.putfield 273, 3) := by decide +kernel
theorem dX10_isMore_76 : decode cX10_isMore 76 = .ok (.aload_n 0, 1) := by decide +kernel
theorem dX10_isMore_77 : decode cX10_isMore 77 = .ok (.iload_n 3, 1) := by decide +kernel
theorem dX10_isMore_78 : decode cX10_isMore 78 = .ok (.iload_n 1, 1) := by decide +kernel
theorem dX10_isMore_79 : decode cX10_isMore 79 = .ok (.isub, 1) := by decide +kernel
theorem dX10_isMore_80 : decode cX10_isMore 80 = .ok (.aload_n 0, 1) := by decide +kernel
theorem dX10_isMore_81 : decode cX10_isMore 81 = .ok (.getfield 270, 3) := by decide +kernel
theorem dX10_isMore_84 : decode cX10_isMore 84 = .ok (.if_icmp .ge 9, 3) := by decide +kernel
theorem dX10_isMore_87 : decode cX10_isMore 87 = .ok (.iload_n 3, 1) := by decide +kernel
theorem dX10_isMore_88 : decode cX10_isMore 88 = .ok (.iload_n 1, 1) := by decide +kernel
theorem dX10_isMore_89 : decode cX10_isMore 89 = .ok (.isub, 1) := by decide +kernel
theorem dX10_isMore_90 : decode cX10_isMore 90 = .ok (.goto 7, 3) := by decide +kernel
theorem dX10_isMore_93 : decode cX10_isMore 93 = .ok (.aload_n 0, 1) := by decide +kernel
theorem dX10_isMore_94 : decode cX10_isMore 94 = .ok (.getfield 270, 3) := by decide +kernel
theorem dX10_isMore_97 : decode cX10_isMore 97 = .ok (.putfield 270, 3) := by decide +kernel
theorem dX10_isMore_100 : decode cX10_isMore 100 = .ok (.aload_n 0, 1) := by decide +kernel
theorem dX10_isMore_101 : decode cX10_isMore 101 = .ok (.dup, 1) := by decide +kernel
theorem dX10_isMore_102 : decode cX10_isMore 102 = .ok (.getfield 264, 3) := by decide +kernel
theorem dX10_isMore_105 : decode cX10_isMore 105 = .ok (.iconst 1, 1) := by decide +kernel
theorem dX10_isMore_106 : decode cX10_isMore 106 = .ok (.iadd, 1) := by decide +kernel
theorem dX10_isMore_107 : decode cX10_isMore 107 = .ok (.putfield 264, 3) := by decide +kernel
theorem dX10_isMore_110 : decode cX10_isMore 110 = .ok (.goto 27, 3) := by decide +kernel
theorem dX10_isMore_113 : decode cX10_isMore 113 = .ok (.aload_n 0, 1) := by decide +kernel
theorem dX10_isMore_114 : decode cX10_isMore 114 = .ok (.iload_n 1, 1) := by decide +kernel
theorem dX10_isMore_115 : decode cX10_isMore 115 = .ok (.putfield 267, 3) := by decide +kernel
theorem dX10_isMore_118 : decode cX10_isMore 118 = .ok (.aload_n 0, 1) := by decide +kernel
theorem dX10_isMore_119 : decode cX10_isMore 119 = .ok (.iconst 1, 1) := by decide +kernel
theorem dX10_isMore_120 : decode cX10_isMore 120 = .ok (.putfield 264, 3) := by decide +kernel
theorem dX10_isMore_123 : decode cX10_isMore 123 = .ok (.aload_n 0, 1) := by decide +kernel
theorem dX10_isMore_124 : decode cX10_isMore 124 = .ok (.iload_n 2, 1) := by decide +kernel
theorem dX10_isMore_125 : decode cX10_isMore 125 = .ok (.iload_n 1, 1) := by decide +kernel
theorem dX10_isMore_126 : decode cX10_isMore 126 = .ok (.isub, 1) := by decide +kernel
theorem dX10_isMore_127 : decode cX10_isMore 127 = .ok (.putfield 273, 3) := by decide +kernel
theorem dX10_isMore_130 : decode cX10_isMore 130 = .ok (.aload_n 0, 1) := by decide +kernel
theorem dX10_isMore_131 : decode cX10_isMore 131 = .ok (.iload_n 3, 1) := by decide +kernel
theorem dX10_isMore_132 : decode cX10_isMore 132 = .ok (.iload_n 1, 1) := by decide +kernel
theorem dX10_isMore_133 : decode cX10_isMore 133 = .ok (.isub, 1) := by decide +kernel
theorem dX10_isMore_134 : decode cX10_isMore 134 = .ok (.putfield 270, 3) := by decide +kernel
theorem dX10_isMore_137 : decode cX10_isMore 137 = .ok (.iload 4, 2) := by decide +kernel
theorem dX10_isMore_139 : decode cX10_isMore 139 = .ok (.ireturn, 1) := by decide +kernel
theorem dX10_toldShift_0 : decode cX10_toldShift 0 = .ok (.aload_n 0, 1) := by decide +kernel
theorem dX10_toldShift_1 : decode cX10_toldShift 1 = .ok (.getfield 273, 3) := by decide +kernel
theorem dX10_toldShift_4 : decode cX10_toldShift 4 = .ok (.ifCond .le 10, 3) := by decide +kernel
theorem dX10_toldShift_7 : decode cX10_toldShift 7 = .ok (.aload_n 0, 1) := by decide +kernel
theorem dX10_toldShift_8 : decode cX10_toldShift 8 = .ok (.getfield 273, 3) := by decide +kernel
theorem dX10_toldShift_11 : decode cX10_toldShift 11 = .ok (.goto 18, 3) := by decide +kernel
theorem dX10_toldShift_14 : decode cX10_toldShift 14 = .ok (.aload_n 0, 1) := by decide +kernel
theorem dX10_toldShift_15 : decode cX10_toldShift 15 = .ok (.getfield 270, 3) := by decide +kernel
theorem dX10_toldShift_18 : decode cX10_toldShift 18 = .ok (.ifCond .ge 10, 3) := by decide +kernel
theorem dX10_toldShift_21 : decode cX10_toldShift 21 = .ok (.aload_n 0, 1) := by decide +kernel
theorem dX10_toldShift_22 : decode cX10_toldShift 22 = .ok (.getfield 270, 3) := by decide +kernel
theorem dX10_toldShift_25 : decode cX10_toldShift 25 = .ok (.goto 4, 3) := by decide +kernel
theorem dX10_toldShift_28 : decode cX10_toldShift 28 = .ok (.iconst 0, 1) := by decide +kernel
theorem dX10_toldShift_29 : decode cX10_toldShift 29 = .ok (.istore_n 2, 1) := by decide +kernel
theorem dX10_toldShift_30 : decode cX10_toldShift 30 = .ok (.iload_n 1, 1) := by decide +kernel
theorem dX10_toldShift_31 : decode cX10_toldShift 31 = .ok (.ifCond .ne 10, 3) := by decide +kernel
theorem dX10_toldShift_34 : decode cX10_toldShift 34 = .ok (.aload_n 0, 1) := by decide +kernel
theorem dX10_toldShift_35 : decode cX10_toldShift 35 = .ok (.getfield 267, 3) := by decide +kernel
theorem dX10_toldShift_38 : decode cX10_toldShift 38 = .ok (.goto 16, 3) := by decide +kernel
theorem dX10_toldShift_41 : decode cX10_toldShift 41 = .ok (.iload_n 1, 1) := by decide +kernel
theorem dX10_toldShift_42 : decode cX10_toldShift 42 = .ok (.iconst 1, 1) := by decide +kernel
theorem dX10_toldShift_43 : decode cX10_toldShift 43 = .ok (.if_icmp .ne 10, 3) := by decide +kernel
theorem dX10_toldShift_46 : decode cX10_toldShift 46 = .ok (.aload_n 0, 1) := by decide +kernel
theorem dX10_toldShift_47 : decode cX10_toldShift 47 = .ok (.getfield 264, 3) := by decide +kernel
theorem dX10_toldShift_50 : decode cX10_toldShift 50 = .ok (.goto 4, 3) := by decide +kernel
theorem dX10_toldShift_53 : decode cX10_toldShift 53 = .ok (.iload_n 2, 1) := by decide +kernel
theorem dX10_toldShift_54 : decode cX10_toldShift 54 = .ok (.ireturn, 1) := by decide +kernel
theorem dX10_thousandths_0 : decode cX10_thousandths 0 = .ok (.iload_n 0, 1) := by decide +kernel
theorem dX10_thousandths_1 : decode cX10_thousandths 1 = .ok (.i2f, 1) := by decide +kernel
theorem dX10_thousandths_2 : decode cX10_thousandths 2 = .ok (.iload_n 1, 1) := by decide +kernel
theorem dX10_thousandths_3 : decode cX10_thousandths 3 = .ok (.i2f, 1) := by decide +kernel
theorem dX10_thousandths_4 : decode cX10_thousandths 4 = .ok (.fdiv, 1) := by decide +kernel
theorem dX10_thousandths_5 : decode cX10_thousandths 5 = .ok (.ldc_w 282, 3) := by decide +kernel
theorem dX10_thousandths_8 : decode cX10_thousandths 8 = .ok (.fmul, 1) := by decide +kernel
theorem dX10_thousandths_9 : decode cX10_thousandths 9 = .ok (.f2i, 1) := by decide +kernel
theorem dX10_thousandths_10 : decode cX10_thousandths 10 = .ok (.ireturn, 1) := by decide +kernel
theorem dX10_scoreOf_0 : decode cX10_scoreOf 0 = .ok (.iconst 0, 1) := by decide +kernel
theorem dX10_scoreOf_1 : decode cX10_scoreOf 1 = .ok (.istore_n 2, 1) := by decide +kernel
theorem dX10_scoreOf_2 : decode cX10_scoreOf 2 = .ok (.iconst 0, 1) := by decide +kernel
theorem dX10_scoreOf_3 : decode cX10_scoreOf 3 = .ok (.istore_n 3, 1) := by decide +kernel
theorem dX10_scoreOf_4 : decode cX10_scoreOf 4 = .ok (.iload_n 3, 1) := by decide +kernel
theorem dX10_scoreOf_5 : decode cX10_scoreOf 5 = .ok (.aload_n 0, 1) := by decide +kernel
theorem dX10_scoreOf_6 : decode cX10_scoreOf 6 = .ok (.getfield 7, 3) := by decide +kernel
theorem dX10_scoreOf_9 : decode cX10_scoreOf 9 = .ok (.iconst 2, 1) := by decide +kernel
theorem dX10_scoreOf_10 : decode cX10_scoreOf 10 = .ok (.iaload, 1) := by decide +kernel
theorem dX10_scoreOf_11 : decode cX10_scoreOf 11 = .ok (.if_icmp .ge 51, 3) := by decide +kernel
theorem dX10_scoreOf_14 : decode cX10_scoreOf 14 = .ok (.iload_n 2, 1) := by decide +kernel
theorem dX10_scoreOf_15 : decode cX10_scoreOf 15 = .ok (.aload_n 0, 1) := by decide +kernel
theorem dX10_scoreOf_16 : decode cX10_scoreOf 16 = .ok (.iload_n 1, 1) := by decide +kernel
theorem dX10_scoreOf_17 : decode cX10_scoreOf 17 = .ok (.aload_n 0, 1) := by decide +kernel
theorem dX10_scoreOf_18 : decode cX10_scoreOf 18 = .ok (.getfield 7, 3) := by decide +kernel
theorem dX10_scoreOf_21 : decode cX10_scoreOf 21 = .ok (.sipush 168, 3) := by decide +kernel
theorem dX10_scoreOf_24 : decode cX10_scoreOf 24 = .ok (.iconst 2, 1) := by decide +kernel
theorem dX10_scoreOf_25 : decode cX10_scoreOf 25 = .ok (.iload_n 3, 1) := by decide +kernel
theorem dX10_scoreOf_26 : decode cX10_scoreOf 26 = .ok (.imul, 1) := by decide +kernel
theorem dX10_scoreOf_27 : decode cX10_scoreOf 27 = .ok (.iadd, 1) := by decide +kernel
theorem dX10_scoreOf_28 : decode cX10_scoreOf 28 = .ok (.iaload, 1) := by decide +kernel
theorem dX10_scoreOf_29 : decode cX10_scoreOf 29 = .ok (.aload_n 0, 1) := by decide +kernel
theorem dX10_scoreOf_30 : decode cX10_scoreOf 30 = .ok (.getfield 7, 3) := by decide +kernel
theorem dX10_scoreOf_33 : decode cX10_scoreOf 33 = .ok (.sipush 168, 3) := by decide +kernel
theorem dX10_scoreOf_36 : decode cX10_scoreOf 36 = .ok (.iconst 2, 1) := by decide +kernel
theorem dX10_scoreOf_37 : decode cX10_scoreOf 37 = .ok (.iload_n 3, 1) := by decide +kernel
theorem dX10_scoreOf_38 : decode cX10_scoreOf 38 = .ok (.imul, 1) := by decide +kernel
theorem dX10_scoreOf_39 : decode cX10_scoreOf 39 = .ok (.iadd, 1) := by decide +kernel
theorem dX10_scoreOf_40 : decode cX10_scoreOf 40 = .ok (.iconst 1, 1) := by decide +kernel
theorem dX10_scoreOf_41 : decode cX10_scoreOf 41 = .ok (.iadd, 1) := by decide +kernel
theorem dX10_scoreOf_42 : decode cX10_scoreOf 42 = .ok (.iaload, 1) := by decide +kernel
theorem dX10_scoreOf_43 : decode cX10_scoreOf 43 = .ok (.invokevirtual 69, 3) := by decide +kernel
theorem dX10_scoreOf_46 : decode cX10_scoreOf 46 = .ok (.ifCond .eq 7, 3) := by decide +kernel
theorem dX10_scoreOf_49 : decode cX10_scoreOf 49 = .ok (.iconst 1, 1) := by decide +kernel
theorem dX10_scoreOf_50 : decode cX10_scoreOf 50 = .ok (.goto 4, 3) := by decide +kernel
theorem dX10_scoreOf_53 : decode cX10_scoreOf 53 = .ok (.iconst 0, 1) := by decide +kernel
theorem dX10_scoreOf_54 : decode cX10_scoreOf 54 = .ok (.iadd, 1) := by decide +kernel
theorem dX10_scoreOf_55 : decode cX10_scoreOf 55 = .ok (.istore_n 2, 1) := by decide +kernel
theorem dX10_scoreOf_56 : decode cX10_scoreOf 56 = .ok (.iinc 3 1, 3) := by decide +kernel
theorem dX10_scoreOf_59 : decode cX10_scoreOf 59 = .ok (.goto (-55), 3) := by decide +kernel
theorem dX10_scoreOf_62 : decode cX10_scoreOf 62 = .ok (.iload_n 2, 1) := by decide +kernel
theorem dX10_scoreOf_63 : decode cX10_scoreOf 63 = .ok (.ireturn, 1) := by decide +kernel
def w_X10_hasNumber : List Cond := .code yX10_hasNumber cX10_hasNumber 3 (some .boolean) :: ([.fieldLink RX10 29 "LineCitesModel" "low" "[I"] ++ wsX100)
set_option maxHeartbeats 4000000 in
set_option maxRecDepth 100000 in
theorem c_X10_hasNumber (l : Launch) (D : va_G) (h0 : Nat) (i_e : Int32) (i_l : Int32) (m_now : Nat) (m_draft : Nat) (m_past : Nat) (j_acts : Int32) (m_images : Nat) (m_kept : Nat) (m_tape : Nat) (j_taped : Int32) (j_at : Int32) (j_start : Int32) (j_token : Int32) (j_value : Int32) (j_fault : Int32) (j_place : Int32) (j_latest : Int32) (m_low : Nat) (m_high : Nat) (m_first : Nat) (m_second : Nat) (m_lines : Nat) (m_others : Nat) (j_shiftFirst : Int32) (j_shiftMany : Int32) (j_shiftLow : Int32) (j_shiftHigh : Int32) (kI : ClassId) (g_low : Nat → Int32) (h0i_e : 0 ≤ i_e.toInt) (h1i_e : i_e.toInt ≤ 4) (h0i_l : 0 ≤ i_l.toInt) (h1i_l : i_l.toInt ≤ 199) (hg_low : bP g_low) : Met l yX10_hasNumber w_X10_hasNumber ({ frames := 0, cells := 0, slots := 0, locals := 0 }) (va_Pc [.ref h0, .int i_e, .int i_l] (fun U => va_P D vwCl [(h0, .inr (10, [.ref m_now, .ref m_draft, .ref m_past, .int j_acts, .ref m_images, .ref m_kept, .ref m_tape, .int j_taped, .int j_at, .int j_start, .int j_token, .int j_value, .int j_fault, .int j_place, .int j_latest, .ref m_low, .ref m_high, .ref m_first, .ref m_second, .ref m_lines, .ref m_others, .int j_shiftFirst, .int j_shiftMany, .int j_shiftLow, .int j_shiftHigh])), (m_low, .inl (kI, 1000, .inl g_low))] U.heap ∧ va_K D vwCl [(kI, .int)] U)) (va_Qi (fun (r : Int32) (_ : Unit) => (r = 0 ∨ r = 1) ∧ True) (fun _ _ => True) (fun _ => False)) 0 0 (fun _ => False) := by
  refine Met.ofW (cc := cX10_hasNumber) (maxL := 3) (ret := (some .boolean)) (by decide) rfl ?_
  intro p e s m args below meth c s₁ B hml hv
  obtain ⟨rfl, hP, hK⟩ := hv
  have hx := B.exec
  have hb := B.bytes
  have hr := B.returns
  have hts := atoms_spec (ws := w_X10_hasNumber) B.pre
  have hown : s.vm.findClass RX10 = some m.cls := findClass_of_methodNamed B.named
  have hlocks := B.notSynchronized
  have hS : va_S (fun _ : Nat => False) s.heap s.heap [] := va_S.rf
  have hP : va_P D vwCl [(h0, .inr (10, [.ref m_now, .ref m_draft, .ref m_past, .int j_acts, .ref m_images, .ref m_kept, .ref m_tape, .int j_taped, .int j_at, .int j_start, .int j_token, .int j_value, .int j_fault, .int j_place, .int j_latest, .ref m_low, .ref m_high, .ref m_first, .ref m_second, .ref m_lines, .ref m_others, .int j_shiftFirst, .int j_shiftMany, .int j_shiftLow, .int j_shiftHigh])), (m_low, .inl (kI, 1000, .inl g_low))] s.heap := hP
  have hl := lv_entry ([.ref h0, .int i_e, .int i_l]) (n := 3) (Nat.le_of_ble_eq_true rfl)
  rw [lg_entry_eq]
  generalize (lg_sl ([.ref h0, .int i_e, .int i_l]) ++ List.replicate (3 - (lg_sl ([.ref h0, .int i_e, .int i_l])).length) Slot.unset).toArray = ls at hl ⊢
  have hl : lv_has ls 3 [(0, .ref h0), (1, .int i_e), (2, .int i_l)] := hl
  obtain ⟨H, hHe⟩ : ∃ H : Heap, H = s.heap := ⟨_, rfl⟩
  rw [← hHe] at hP
  have hS : va_S (fun _ : Nat => False) s.heap H [] := by rw [hHe]; exact hS
  refine pw_heap hHe ?_
  refine lv_aload_n hx hb dX10_hasNumber_0 rfl (lv_at hl 0 rfl) ?_
  refine va_get (D := D) (ci := 10) (v := .ref m_low) (C := RX10) (T := TX10) (N := 25) hx hb hts (fun _ h => List.mem_cons_of_mem _ (List.mem_append_right _ h)) hown hK hP 0 rfl rfl 15 (by decide) (hts (.fieldLink RX10 29 "LineCitesModel" "low" "[I") (List.mem_of_getElem? (i := 1) rfl)) (fun _ h9 => h9) rfl dX10_hasNumber_1 ?_
  refine lv_sipush (v := 200) hx hb dX10_hasNumber_4 (by decide) ?_
  refine lv_iload_n hx hb dX10_hasNumber_7 rfl (lv_at hl 1 rfl) ?_
  refine lv_imul hx hb dX10_hasNumber_8 ?_
  refine lv_topi (fun x1 ex1 => ?_)
  have tx1 : x1.toInt = 200 * i_e.toInt := pw_mulX ex1 (by decide) rfl (by omega) (by omega)
  refine lv_iload_n hx hb dX10_hasNumber_9 rfl (lv_at hl 2 rfl) ?_
  refine lv_iadd hx hb dX10_hasNumber_10 ?_
  refine lv_topi (fun x2 ex2 => ?_)
  have tx2 : x2.toInt = x1.toInt + i_l.toInt := pw_addX ex2 rfl rfl (by omega) (by omega)
  refine va_iald hx hb hK hP 1 0 rfl rfl (vp_in_iff.mpr ⟨by omega, by omega⟩) dX10_hasNumber_11 ?_
  refine lv_topi (fun x3 ex3 => ?_)
  have nx3 : 0 ≤ x3.toInt ∧ x3.toInt ≤ 999 := bP_at hg_low ex3
  refine lv_if_le (tgt := 19) hx hb dX10_hasNumber_12 (by decide) (fun c4 => ?_) (fun c4 => ?_)
  · have nc4 : x3.toInt ≤ 0 := pw_le c4 rfl (by decide)
    refine lv_iconst (v := 0) hx hb dX10_hasNumber_19 (by decide) ?_
    exact W.zret (v := 0) (ty := .boolean) hx hb hr rfl (fun t ht hW => ⟨⟨0, (), rfl, ⟨Or.inl rfl, trivial⟩, trivial⟩, hS.F ht⟩) hS.2.2 dX10_hasNumber_20
  · have nc4 : 0 < x3.toInt := pw_nle c4 rfl (by decide)
    refine lv_iconst (v := 1) hx hb dX10_hasNumber_15 (by decide) ?_
    refine lv_goto (tgt := 20) hx hb dX10_hasNumber_16 (by decide) ?_
    exact W.zret (v := 1) (ty := .boolean) hx hb hr rfl (fun t ht hW => ⟨⟨1, (), rfl, ⟨Or.inr rfl, trivial⟩, trivial⟩, hS.F ht⟩) hS.2.2 dX10_hasNumber_20
def w_X10_isMeant : List Cond := .code yX10_isMeant cX10_isMeant 4 (some .boolean) :: ([.fieldLink RX10 29 "LineCitesModel" "low" "[I", .fieldLink RX10 32 "LineCitesModel" "high" "[I"] ++ wsX100)
set_option maxHeartbeats 4000000 in
set_option maxRecDepth 100000 in
theorem c_X10_isMeant (l : Launch) (D : va_G) (h0 : Nat) (i_e : Int32) (i_n : Int32) (i_l : Int32) (m_now : Nat) (m_draft : Nat) (m_past : Nat) (j_acts : Int32) (m_images : Nat) (m_kept : Nat) (m_tape : Nat) (j_taped : Int32) (j_at : Int32) (j_start : Int32) (j_token : Int32) (j_value : Int32) (j_fault : Int32) (j_place : Int32) (j_latest : Int32) (m_low : Nat) (m_high : Nat) (m_first : Nat) (m_second : Nat) (m_lines : Nat) (m_others : Nat) (j_shiftFirst : Int32) (j_shiftMany : Int32) (j_shiftLow : Int32) (j_shiftHigh : Int32) (kI : ClassId) (g_low : Nat → Int32) (g_high : Nat → Int32) (h0i_e : 0 ≤ i_e.toInt) (h1i_e : i_e.toInt ≤ 4) (h0i_l : 0 ≤ i_l.toInt) (h1i_l : i_l.toInt ≤ 199) (hg_low : bP g_low) (hg_high : bP g_high) : Met l yX10_isMeant w_X10_isMeant ({ frames := 0, cells := 0, slots := 0, locals := 0 }) (va_Pc [.ref h0, .int i_e, .int i_n, .int i_l] (fun U => va_P D vwCl [(h0, .inr (10, [.ref m_now, .ref m_draft, .ref m_past, .int j_acts, .ref m_images, .ref m_kept, .ref m_tape, .int j_taped, .int j_at, .int j_start, .int j_token, .int j_value, .int j_fault, .int j_place, .int j_latest, .ref m_low, .ref m_high, .ref m_first, .ref m_second, .ref m_lines, .ref m_others, .int j_shiftFirst, .int j_shiftMany, .int j_shiftLow, .int j_shiftHigh])), (m_low, .inl (kI, 1000, .inl g_low)), (m_high, .inl (kI, 1000, .inl g_high))] U.heap ∧ va_K D vwCl [(kI, .int)] U)) (va_Qi (fun (r : Int32) (_ : Unit) => (r = 0 ∨ r = 1) ∧ True) (fun _ _ => True) (fun _ => False)) 0 0 (fun _ => False) := by
  refine Met.ofW (cc := cX10_isMeant) (maxL := 4) (ret := (some .boolean)) (by decide) rfl ?_
  intro p e s m args below meth c s₁ B hml hv
  obtain ⟨rfl, hP, hK⟩ := hv
  have hx := B.exec
  have hb := B.bytes
  have hr := B.returns
  have hts := atoms_spec (ws := w_X10_isMeant) B.pre
  have hown : s.vm.findClass RX10 = some m.cls := findClass_of_methodNamed B.named
  have hlocks := B.notSynchronized
  have hS : va_S (fun _ : Nat => False) s.heap s.heap [] := va_S.rf
  have hP : va_P D vwCl [(h0, .inr (10, [.ref m_now, .ref m_draft, .ref m_past, .int j_acts, .ref m_images, .ref m_kept, .ref m_tape, .int j_taped, .int j_at, .int j_start, .int j_token, .int j_value, .int j_fault, .int j_place, .int j_latest, .ref m_low, .ref m_high, .ref m_first, .ref m_second, .ref m_lines, .ref m_others, .int j_shiftFirst, .int j_shiftMany, .int j_shiftLow, .int j_shiftHigh])), (m_low, .inl (kI, 1000, .inl g_low)), (m_high, .inl (kI, 1000, .inl g_high))] s.heap := hP
  have hl := lv_entry ([.ref h0, .int i_e, .int i_n, .int i_l]) (n := 4) (Nat.le_of_ble_eq_true rfl)
  rw [lg_entry_eq]
  generalize (lg_sl ([.ref h0, .int i_e, .int i_n, .int i_l]) ++ List.replicate (4 - (lg_sl ([.ref h0, .int i_e, .int i_n, .int i_l])).length) Slot.unset).toArray = ls at hl ⊢
  have hl : lv_has ls 4 [(0, .ref h0), (1, .int i_e), (2, .int i_n), (3, .int i_l)] := hl
  obtain ⟨H, hHe⟩ : ∃ H : Heap, H = s.heap := ⟨_, rfl⟩
  rw [← hHe] at hP
  have hS : va_S (fun _ : Nat => False) s.heap H [] := by rw [hHe]; exact hS
  refine pw_heap hHe ?_
  refine lv_iload_n hx hb dX10_isMeant_0 rfl (lv_at hl 2 rfl) ?_
  refine lv_if_le (tgt := 40) hx hb dX10_isMeant_1 (by decide) (fun c1 => ?_) (fun c1 => ?_)
  · have nc1 : i_n.toInt ≤ 0 := pw_le c1 rfl (by decide)
    refine lv_iconst (v := 0) hx hb dX10_isMeant_40 (by decide) ?_
    exact W.zret (v := 0) (ty := .boolean) hx hb hr rfl (fun t ht hW => ⟨⟨0, (), rfl, ⟨Or.inl rfl, trivial⟩, trivial⟩, hS.F ht⟩) hS.2.2 dX10_isMeant_41
  · have nc1 : 0 < i_n.toInt := pw_nle c1 rfl (by decide)
    refine lv_aload_n hx hb dX10_isMeant_4 rfl (lv_at hl 0 rfl) ?_
    refine va_get (D := D) (ci := 10) (v := .ref m_low) (C := RX10) (T := TX10) (N := 25) hx hb hts (fun _ h => List.mem_cons_of_mem _ (List.mem_append_right _ h)) hown hK hP 0 rfl rfl 15 (by decide) (hts (.fieldLink RX10 29 "LineCitesModel" "low" "[I") (List.mem_of_getElem? (i := 1) rfl)) (fun _ h9 => h9) rfl dX10_isMeant_5 ?_
    refine lv_sipush (v := 200) hx hb dX10_isMeant_8 (by decide) ?_
    refine lv_iload_n hx hb dX10_isMeant_11 rfl (lv_at hl 1 rfl) ?_
    refine lv_imul hx hb dX10_isMeant_12 ?_
    refine lv_topi (fun x2 ex2 => ?_)
    have tx2 : x2.toInt = 200 * i_e.toInt := pw_mulX ex2 (by decide) rfl (by omega) (by omega)
    refine lv_iload_n hx hb dX10_isMeant_13 rfl (lv_at hl 3 rfl) ?_
    refine lv_iadd hx hb dX10_isMeant_14 ?_
    refine lv_topi (fun x3 ex3 => ?_)
    have tx3 : x3.toInt = x2.toInt + i_l.toInt := pw_addX ex3 rfl rfl (by omega) (by omega)
    refine va_iald hx hb hK hP 1 0 rfl rfl (vp_in_iff.mpr ⟨by omega, by omega⟩) dX10_isMeant_15 ?_
    refine lv_topi (fun x4 ex4 => ?_)
    have nx4 : 0 ≤ x4.toInt ∧ x4.toInt ≤ 999 := bP_at hg_low ex4
    refine lv_iload_n hx hb dX10_isMeant_16 rfl (lv_at hl 2 rfl) ?_
    refine lv_icmp_eq (tgt := 36) hx hb dX10_isMeant_17 (by decide) (fun c5 => ?_) (fun c5 => ?_)
    · have nc5 : x4.toInt = i_n.toInt := pw_eq c5 rfl rfl
      have mc5x4 := pw_max x4
      have mc5i_n := pw_max i_n
      refine lv_iconst (v := 1) hx hb dX10_isMeant_36 (by decide) ?_
      refine lv_goto (tgt := 41) hx hb dX10_isMeant_37 (by decide) ?_
      exact W.zret (v := 1) (ty := .boolean) hx hb hr rfl (fun t ht hW => ⟨⟨1, (), rfl, ⟨Or.inr rfl, trivial⟩, trivial⟩, hS.F ht⟩) hS.2.2 dX10_isMeant_41
    · have nc5 : x4.toInt ≠ i_n.toInt := pw_ne c5 rfl rfl
      have mc5x4 := pw_max x4
      have mc5i_n := pw_max i_n
      refine lv_aload_n hx hb dX10_isMeant_20 rfl (lv_at hl 0 rfl) ?_
      refine va_get (D := D) (ci := 10) (v := .ref m_high) (C := RX10) (T := TX10) (N := 25) hx hb hts (fun _ h => List.mem_cons_of_mem _ (List.mem_append_right _ h)) hown hK hP 0 rfl rfl 16 (by decide) (hts (.fieldLink RX10 32 "LineCitesModel" "high" "[I") (List.mem_of_getElem? (i := 2) rfl)) (fun _ h9 => h9) rfl dX10_isMeant_21 ?_
      refine lv_sipush (v := 200) hx hb dX10_isMeant_24 (by decide) ?_
      refine lv_iload_n hx hb dX10_isMeant_27 rfl (lv_at hl 1 rfl) ?_
      refine lv_imul hx hb dX10_isMeant_28 ?_
      refine lv_topi (fun x6 ex6 => ?_)
      have tx6 : x6.toInt = 200 * i_e.toInt := pw_mulX ex6 (by decide) rfl (by omega) (by omega)
      refine lv_iload_n hx hb dX10_isMeant_29 rfl (lv_at hl 3 rfl) ?_
      refine lv_iadd hx hb dX10_isMeant_30 ?_
      refine lv_topi (fun x7 ex7 => ?_)
      have tx7 : x7.toInt = x6.toInt + i_l.toInt := pw_addX ex7 rfl rfl (by omega) (by omega)
      refine va_iald hx hb hK hP 2 0 rfl rfl (vp_in_iff.mpr ⟨by omega, by omega⟩) dX10_isMeant_31 ?_
      refine lv_topi (fun x8 ex8 => ?_)
      have nx8 : 0 ≤ x8.toInt ∧ x8.toInt ≤ 999 := bP_at hg_high ex8
      refine lv_iload_n hx hb dX10_isMeant_32 rfl (lv_at hl 2 rfl) ?_
      refine lv_icmp_ne (tgt := 40) hx hb dX10_isMeant_33 (by decide) (fun c9 => ?_) (fun c9 => ?_)
      · have nc9 : x8.toInt ≠ i_n.toInt := pw_ne c9 rfl rfl
        have mc9x8 := pw_max x8
        have mc9i_n := pw_max i_n
        refine lv_iconst (v := 0) hx hb dX10_isMeant_40 (by decide) ?_
        exact W.zret (v := 0) (ty := .boolean) hx hb hr rfl (fun t ht hW => ⟨⟨0, (), rfl, ⟨Or.inl rfl, trivial⟩, trivial⟩, hS.F ht⟩) hS.2.2 dX10_isMeant_41
      · have nc9 : x8.toInt = i_n.toInt := pw_eq c9 rfl rfl
        have mc9x8 := pw_max x8
        have mc9i_n := pw_max i_n
        refine lv_iconst (v := 1) hx hb dX10_isMeant_36 (by decide) ?_
        refine lv_goto (tgt := 41) hx hb dX10_isMeant_37 (by decide) ?_
        exact W.zret (v := 1) (ty := .boolean) hx hb hr rfl (fun t ht hW => ⟨⟨1, (), rfl, ⟨Or.inr rfl, trivial⟩, trivial⟩, hS.F ht⟩) hS.2.2 dX10_isMeant_41
def w_X10_clears : List Cond := .code yX10_clears cX10_clears 2 none :: ([])
set_option maxHeartbeats 4000000 in
set_option maxRecDepth 100000 in
theorem c_X10_clears (l : Launch) (D : va_G) (b : Nat) (kZ : ClassId) (g_b : Nat → Int32) (sz : Nat) : Met l yX10_clears w_X10_clears ({ frames := 0, cells := 0, slots := 0, locals := 0 }) (va_Pc [.ref b] (fun U => U.heap.size = sz ∧ va_P D vwCl [(b, .inl (kZ, 1000, .inl g_b))] U.heap ∧ va_K D vwCl [(kZ, .boolean)] U ∧ va_D (fun _ => True) [(b, .inl (kZ, 1000, .inl g_b))])) (va_Qv (fun (_ : Unit) => True) (fun (_ : Unit) t => ∃ (n_b : Nat → Int32), va_P D vwCl [(b, .inl (kZ, 1000, .inl n_b))] t.heap ∧ va_K D vwCl [(kZ, .boolean)] t ∧ va_D (va_A [(b, .inl (kZ, 1000, .inl g_b))] sz) [(b, .inl (kZ, 1000, .inl n_b))]) (va_A [(b, .inl (kZ, 1000, .inl g_b))] sz)) 0 0 (va_A [(b, .inl (kZ, 1000, .inl g_b))] sz) := by
  refine Met.ofW (cc := cX10_clears) (maxL := 2) (ret := none) (by decide) rfl ?_
  intro p e s m args below meth c s₁ B hml hv
  obtain ⟨rfl, hsz, hP, hK, hD0⟩ := hv
  have hx := B.exec
  have hb := B.bytes
  have hr := B.returns
  have hts := atoms_spec (ws := w_X10_clears) B.pre
  have hown : s.vm.findClass RX10 = some m.cls := findClass_of_methodNamed B.named
  have hlocks := B.notSynchronized
  subst hsz
  have hD := hD0.self (sz := s.heap.size)
  generalize hAe : va_A [(b, .inl (kZ, 1000, .inl g_b))] s.heap.size = A at hD ⊢
  have hA : ∀ q : Nat, s.heap.size ≤ q → A q := fun q h => by rw [← hAe]; exact Or.inr h
  have hS : va_S A s.heap s.heap [] := va_S.rf
  have hP : va_P D vwCl [(b, .inl (kZ, 1000, .inl g_b))] s.heap := hP
  have hl := lv_entry ([.ref b]) (n := 2) (Nat.le_of_ble_eq_true rfl)
  rw [lg_entry_eq]
  generalize (lg_sl ([.ref b]) ++ List.replicate (2 - (lg_sl ([.ref b])).length) Slot.unset).toArray = ls at hl ⊢
  have hl : lv_has ls 2 [(0, .ref b)] := hl
  obtain ⟨H, hHe⟩ : ∃ H : Heap, H = s.heap := ⟨_, rfl⟩
  rw [← hHe] at hP
  have hS : va_S A s.heap H [] := by rw [hHe]; exact hS
  refine pw_heap hHe ?_
  refine lv_iconst (v := 0) hx hb dX10_clears_0 (by decide) ?_
  refine lv_istore_n (lv' := [(1, .int 0), (0, .ref b)]) hx hb dX10_clears_1 rfl hl (by decide) rfl (fun ls hl => ?_)
  have hl9 : lv_has ls 2 [(0, .ref b), (1, .int 0)] := lv_sub hl [1, 0] rfl
  refine pw_loop (fun (zz : Int32 × (Nat → Int32)) H locs ls => match zz with | (v8, f9) => va_P D vwCl [(b, .inl (kZ, 1000, .inl f9))] H ∧ va_D A [(b, .inl (kZ, 1000, .inl f9))] ∧ va_S A s.heap H locs ∧ lv_has ls 2 [(0, .ref b), (1, .int v8)] ∧ 0 ≤ v8.toInt) (fun (zz : Int32 × (Nat → Int32))  => match zz with | (v8, f9) => (2147483648 - v8.toInt).toNat) 0 0 (fun (zz : Int32 × (Nat → Int32)) ls => match zz with | (v8, f9) => F0 m 2 ls []) (fun zz H locs ls ih10 hI => ?_) (0, g_b) _ _ _ ⟨hP, hD, hS, hl9, (by decide)⟩
  obtain ⟨v8, f9⟩ := zz
  obtain ⟨hP, hD, hS, hl, bv8⟩ := hI
  have bv8 : 0 ≤ v8.toInt := bv8
  have hP : va_P D vwCl [(b, .inl (kZ, 1000, .inl f9))] H := hP
  have hD : va_D A [(b, .inl (kZ, 1000, .inl f9))] := hD
  have hK : va_K D vwCl [(kZ, .boolean)] s := hK
  have hl : lv_has ls 2 [(0, .ref b), (1, .int v8)] := hl
  refine W.eq (g2 := F0 m 2 ls []) rfl ?_
  refine lv_iload_n hx hb dX10_clears_2 rfl (lv_at hl 1 rfl) ?_
  refine lv_aload_n hx hb dX10_clears_3 rfl (lv_at hl 0 rfl) ?_
  refine va_alen (v := 1000) hx hb hK hP 0 0 rfl rfl rfl dX10_clears_4 ?_
  refine lv_icmp_ge (tgt := 18) hx hb dX10_clears_5 (by decide) (fun c11 => ?_) (fun c11 => ?_)
  · have nc11 : 1000 ≤ v8.toInt := pw_le c11 (by decide) rfl
    have hP9 := hP.sub (ws' := [(b, .inl (kZ, 1000, .inl f9))]) [0] rfl
    have hD9 := hD.sub (ws' := [(b, .inl (kZ, 1000, .inl f9))]) [0] (by decide) rfl
    have hK9 := hK.sub (tys' := [(kZ, .boolean)]) [0] rfl
    refine W.widen (k := 0) (n := 0) (Nat.le_of_ble_eq_true rfl) (Nat.le_of_ble_eq_true rfl) ?_
    exact W.vret hx hb hr (fun t ht hW => ⟨⟨(), rfl, trivial, f9, by rw [ht]; exact hP9, va_K.moved hW.alike hK9, hD9⟩, hS.F ht⟩) hS.2.2 dX10_clears_18
  · have nc11 : v8.toInt < 1000 := pw_nle c11 (by decide) rfl
    refine lv_aload_n hx hb dX10_clears_8 rfl (lv_at hl 0 rfl) ?_
    refine lv_iload_n hx hb dX10_clears_9 rfl (lv_at hl 1 rfl) ?_
    refine lv_iconst (v := 0) hx hb dX10_clears_10 (by decide) ?_
    refine va_zast hx hb hK hP hD hS 0 0 rfl rfl (vp_in_iff.mpr ⟨by omega, by omega⟩) dX10_clears_11 (fun H locs hP hD hS => ?_)
    obtain ⟨g12, eg12⟩ : ∃ g : Nat → Int32, g = upd f9 (v8 : Int32).toNatClampNeg (vp_nar .boolean 0) := ⟨_, rfl⟩
    have hP : va_P D vwCl [(b, .inl (kZ, 1000, .inl (upd f9 (v8 : Int32).toNatClampNeg (vp_nar .boolean 0))))] H := hP
    have hD : va_D A [(b, .inl (kZ, 1000, .inl (upd f9 (v8 : Int32).toNatClampNeg (vp_nar .boolean 0))))] := hD
    have hK : va_K D vwCl [(kZ, .boolean)] s := hK
    rw [← eg12] at hP hD
    obtain ⟨x13, ex13⟩ : ∃ y : Int32, y = v8 + 1 := ⟨_, rfl⟩
    have tx13 : x13.toInt = v8.toInt + 1 := pw_addX ex13 rfl (by decide) (by omega) (by omega)
    refine lv_iinc (v := x13) (lv' := [(1, .int x13), (0, .ref b)]) hx hb dX10_clears_12 hl (k := 1) rfl (by rw [ex13]; rfl) (by decide) rfl (fun ls hl => ?_)
    refine lv_goto (tgt := 2) hx hb dX10_clears_15 (by decide) ?_
    have hP9 : va_P D vwCl [(b, .inl (kZ, 1000, .inl g12))] H := hP.sub [0] rfl
    have hD9 : va_D A [(b, .inl (kZ, 1000, .inl g12))] := hD.sub [0] (by decide) rfl
    have hl9 : lv_has ls 2 [(0, .ref b), (1, .int x13)] := lv_sub hl [1, 0] rfl
    refine W.widen (k := 0) (n := 0) (Nat.le_of_ble_eq_true rfl) (Nat.le_of_ble_eq_true rfl) ?_
    exact ih10 (x13, g12) _ _ _ (pw_up ex13 (by omega)) ⟨hP9, hD9, hS, hl9, (pw_upge ex13 (by omega) (by omega))⟩
def w_X10_manyIn : List Cond := .code yX10_manyIn cX10_manyIn 3 (some .int) :: ([])
set_option maxHeartbeats 4000000 in
set_option maxRecDepth 100000 in
theorem c_X10_manyIn (l : Launch) (D : va_G) (b : Nat) (kZ : ClassId) (g_b : Nat → Int32) : Met l yX10_manyIn w_X10_manyIn ({ frames := 0, cells := 0, slots := 0, locals := 0 }) (va_Pc [.ref b] (fun U => va_P D vwCl [(b, .inl (kZ, 1000, .inl g_b))] U.heap ∧ va_K D vwCl [(kZ, .boolean)] U)) (va_Qi (fun (r : Int32) (_ : Unit) => True) (fun _ _ => True) (fun _ => False)) 0 0 (fun _ => False) := by
  refine Met.ofW (cc := cX10_manyIn) (maxL := 3) (ret := (some .int)) (by decide) rfl ?_
  intro p e s m args below meth c s₁ B hml hv
  obtain ⟨rfl, hP, hK⟩ := hv
  have hx := B.exec
  have hb := B.bytes
  have hr := B.returns
  have hts := atoms_spec (ws := w_X10_manyIn) B.pre
  have hown : s.vm.findClass RX10 = some m.cls := findClass_of_methodNamed B.named
  have hlocks := B.notSynchronized
  have hS : va_S (fun _ : Nat => False) s.heap s.heap [] := va_S.rf
  have hP : va_P D vwCl [(b, .inl (kZ, 1000, .inl g_b))] s.heap := hP
  have hl := lv_entry ([.ref b]) (n := 3) (Nat.le_of_ble_eq_true rfl)
  rw [lg_entry_eq]
  generalize (lg_sl ([.ref b]) ++ List.replicate (3 - (lg_sl ([.ref b])).length) Slot.unset).toArray = ls at hl ⊢
  have hl : lv_has ls 3 [(0, .ref b)] := hl
  obtain ⟨H, hHe⟩ : ∃ H : Heap, H = s.heap := ⟨_, rfl⟩
  rw [← hHe] at hP
  have hS : va_S (fun _ : Nat => False) s.heap H [] := by rw [hHe]; exact hS
  refine pw_heap hHe ?_
  refine lv_iconst (v := 0) hx hb dX10_manyIn_0 (by decide) ?_
  refine lv_istore_n (lv' := [(1, .int 0), (0, .ref b)]) hx hb dX10_manyIn_1 rfl hl (by decide) rfl (fun ls hl => ?_)
  refine lv_iconst (v := 0) hx hb dX10_manyIn_2 (by decide) ?_
  refine lv_istore_n (lv' := [(2, .int 0), (1, .int 0), (0, .ref b)]) hx hb dX10_manyIn_3 rfl hl (by decide) rfl (fun ls hl => ?_)
  have hl9 : lv_has ls 3 [(0, .ref b), (1, .int 0), (2, .int 0)] := lv_sub hl [2, 1, 0] rfl
  refine pw_loop (fun (zz : Int32 × Int32) H locs ls => match zz with | (v26, v27) => va_P D vwCl [(b, .inl (kZ, 1000, .inl g_b))] H ∧ va_S (fun _ : Nat => False) s.heap H locs ∧ lv_has ls 3 [(0, .ref b), (1, .int v26), (2, .int v27)] ∧ 0 ≤ v27.toInt) (fun (zz : Int32 × Int32)  => match zz with | (v26, v27) => (2147483648 - v27.toInt).toNat) 0 0 (fun (zz : Int32 × Int32) ls => match zz with | (v26, v27) => F0 m 4 ls []) (fun zz H locs ls ih28 hI => ?_) (0, 0) _ _ _ ⟨hP, hS, hl9, (by decide)⟩
  obtain ⟨v26, v27⟩ := zz
  obtain ⟨hP, hS, hl, bv27⟩ := hI
  have bv27 : 0 ≤ v27.toInt := bv27
  have hP : va_P D vwCl [(b, .inl (kZ, 1000, .inl g_b))] H := hP
  have hK : va_K D vwCl [(kZ, .boolean)] s := hK
  have hl : lv_has ls 3 [(0, .ref b), (1, .int v26), (2, .int v27)] := hl
  refine W.eq (g2 := F0 m 4 ls []) rfl ?_
  refine lv_iload_n hx hb dX10_manyIn_4 rfl (lv_at hl 2 rfl) ?_
  refine lv_aload_n hx hb dX10_manyIn_5 rfl (lv_at hl 0 rfl) ?_
  refine va_alen (v := 1000) hx hb hK hP 0 0 rfl rfl rfl dX10_manyIn_6 ?_
  refine lv_icmp_ge (tgt := 30) hx hb dX10_manyIn_7 (by decide) (fun c37 => ?_) (fun c37 => ?_)
  · have nc37 : 1000 ≤ v27.toInt := pw_le c37 (by decide) rfl
    refine lv_iload_n hx hb dX10_manyIn_30 rfl (lv_at hl 1 rfl) ?_
    exact W.iret (v := v26) hx hb hr (fun t ht hW => ⟨⟨v26, (), rfl, trivial, trivial⟩, hS.F ht⟩) hS.2.2 dX10_manyIn_31
  · have nc37 : v27.toInt < 1000 := pw_nle c37 (by decide) rfl
    refine lv_iload_n hx hb dX10_manyIn_10 rfl (lv_at hl 1 rfl) ?_
    refine lv_aload_n hx hb dX10_manyIn_11 rfl (lv_at hl 0 rfl) ?_
    refine lv_iload_n hx hb dX10_manyIn_12 rfl (lv_at hl 2 rfl) ?_
    refine va_zald hx hb hK hP 0 0 rfl rfl (vp_in_iff.mpr ⟨by omega, by omega⟩) dX10_manyIn_13 ?_
    refine lv_topi (fun x38 ex38 => ?_)
    refine pw_join (fun (v40 : Int32) H locs ls => va_P D vwCl [(b, .inl (kZ, 1000, .inl g_b))] H ∧ va_S (fun _ : Nat => False) s.heap H locs ∧ lv_has ls 3 [(0, .ref b), (1, .int v26), (2, .int v27)]) 0 0 (fun (v40 : Int32) ls => F0 m 22 ls [.int v40, .int v26]) (fun v40 H locs ls hI => ?_) (fun hJ41 => ?_)
    ·
      obtain ⟨hP, hS, hl⟩ := hI
      have hP : va_P D vwCl [(b, .inl (kZ, 1000, .inl g_b))] H := hP
      have hK : va_K D vwCl [(kZ, .boolean)] s := hK
      have hl : lv_has ls 3 [(0, .ref b), (1, .int v26), (2, .int v27)] := hl
      refine W.eq (g2 := F0 m 22 ls [.int v40, .int v26]) rfl ?_
      refine lv_iadd hx hb dX10_manyIn_22 ?_
      refine lv_topi (fun x42 ex42 => ?_)
      refine lv_istore_n (lv' := [(1, .int x42), (0, .ref b), (2, .int v27)]) hx hb dX10_manyIn_23 rfl hl (by decide) rfl (fun ls hl => ?_)
      obtain ⟨x43, ex43⟩ : ∃ y : Int32, y = v27 + 1 := ⟨_, rfl⟩
      have tx43 : x43.toInt = v27.toInt + 1 := pw_addX ex43 rfl (by decide) (by omega) (by omega)
      refine lv_iinc (v := x43) (lv' := [(2, .int x43), (1, .int x42), (0, .ref b)]) hx hb dX10_manyIn_24 hl (k := 2) rfl (by rw [ex43]; rfl) (by decide) rfl (fun ls hl => ?_)
      refine lv_goto (tgt := 4) hx hb dX10_manyIn_27 (by decide) ?_
      have hP9 : va_P D vwCl [(b, .inl (kZ, 1000, .inl g_b))] H := hP.sub [0] rfl
      have hl9 : lv_has ls 3 [(0, .ref b), (1, .int x42), (2, .int x43)] := lv_sub hl [2, 1, 0] rfl
      refine W.widen (k := 0) (n := 0) (Nat.le_of_ble_eq_true rfl) (Nat.le_of_ble_eq_true rfl) ?_
      exact ih28 (x42, x43) _ _ _ (pw_up ex43 (by omega)) ⟨hP9, hS, hl9, (pw_upge ex43 (by omega) (by omega))⟩
    ·
      refine lv_if_eq (tgt := 21) hx hb dX10_manyIn_14 (by decide) (fun c44 => ?_) (fun c44 => ?_)
      · have nc44 : x38.toInt = 0 := pw_eq c44 rfl (by decide)
        refine lv_iconst (v := 0) hx hb dX10_manyIn_21 (by decide) ?_
        have hP9 : va_P D vwCl [(b, .inl (kZ, 1000, .inl g_b))] H := hP.sub [0] rfl
        have hl9 : lv_has ls 3 [(0, .ref b), (1, .int v26), (2, .int v27)] := lv_sub hl [0, 1, 2] rfl
        refine W.widen (k := 0) (n := 0) (Nat.le_of_ble_eq_true rfl) (Nat.le_of_ble_eq_true rfl) ?_
        exact hJ41 0 _ _ _ ⟨hP9, hS, hl9⟩
      · have nc44 : x38.toInt ≠ 0 := pw_ne c44 rfl (by decide)
        refine lv_iconst (v := 1) hx hb dX10_manyIn_17 (by decide) ?_
        refine lv_goto (tgt := 22) hx hb dX10_manyIn_18 (by decide) ?_
        have hP9 : va_P D vwCl [(b, .inl (kZ, 1000, .inl g_b))] H := hP.sub [0] rfl
        have hl9 : lv_has ls 3 [(0, .ref b), (1, .int v26), (2, .int v27)] := lv_sub hl [0, 1, 2] rfl
        refine W.widen (k := 0) (n := 0) (Nat.le_of_ble_eq_true rfl) (Nat.le_of_ble_eq_true rfl) ?_
        exact hJ41 1 _ _ _ ⟨hP9, hS, hl9⟩
def w_X10_leastOf : List Cond := .code yX10_leastOf cX10_leastOf 3 (some .int) :: ([.constant RX10 61 (-1000000)])
set_option maxHeartbeats 4000000 in
set_option maxRecDepth 100000 in
theorem c_X10_leastOf (l : Launch) (D : va_G) (b : Nat) (kZ : ClassId) (g_b : Nat → Int32) : Met l yX10_leastOf w_X10_leastOf ({ frames := 0, cells := 0, slots := 0, locals := 0 }) (va_Pc [.ref b] (fun U => va_P D vwCl [(b, .inl (kZ, 1000, .inl g_b))] U.heap ∧ va_K D vwCl [(kZ, .boolean)] U)) (va_Qi (fun (r : Int32) (_ : Unit) => True) (fun _ _ => True) (fun _ => False)) 0 0 (fun _ => False) := by
  refine Met.ofW (cc := cX10_leastOf) (maxL := 3) (ret := (some .int)) (by decide) rfl ?_
  intro p e s m args below meth c s₁ B hml hv
  obtain ⟨rfl, hP, hK⟩ := hv
  have hx := B.exec
  have hb := B.bytes
  have hr := B.returns
  have hts := atoms_spec (ws := w_X10_leastOf) B.pre
  have hown : s.vm.findClass RX10 = some m.cls := findClass_of_methodNamed B.named
  have hlocks := B.notSynchronized
  have hS : va_S (fun _ : Nat => False) s.heap s.heap [] := va_S.rf
  have hP : va_P D vwCl [(b, .inl (kZ, 1000, .inl g_b))] s.heap := hP
  have hl := lv_entry ([.ref b]) (n := 3) (Nat.le_of_ble_eq_true rfl)
  rw [lg_entry_eq]
  generalize (lg_sl ([.ref b]) ++ List.replicate (3 - (lg_sl ([.ref b])).length) Slot.unset).toArray = ls at hl ⊢
  have hl : lv_has ls 3 [(0, .ref b)] := hl
  obtain ⟨H, hHe⟩ : ∃ H : Heap, H = s.heap := ⟨_, rfl⟩
  rw [← hHe] at hP
  have hS : va_S (fun _ : Nat => False) s.heap H [] := by rw [hHe]; exact hS
  refine pw_heap hHe ?_
  refine lv_ldc hx hb hown (hts (.constant RX10 61 (-1000000)) (List.mem_of_getElem? (i := 1) rfl)) dX10_leastOf_0 ?_
  refine lv_istore_n (lv' := [(1, .int (-1000000)), (0, .ref b)]) hx hb dX10_leastOf_2 rfl hl (by decide) rfl (fun ls hl => ?_)
  refine lv_aload_n hx hb dX10_leastOf_3 rfl (lv_at hl 1 rfl) ?_
  refine va_alen (v := 1000) hx hb hK hP 0 0 rfl rfl rfl dX10_leastOf_4 ?_
  refine lv_iconst (v := 1) hx hb dX10_leastOf_5 (by decide) ?_
  refine lv_isub hx hb dX10_leastOf_6 ?_
  refine lv_topi (fun x1 ex1 => ?_)
  obtain rfl : x1 = 999 := ex1.trans (by decide)
  refine lv_istore_n (lv' := [(2, .int 999), (1, .int (-1000000)), (0, .ref b)]) hx hb dX10_leastOf_7 rfl hl (by decide) rfl (fun ls hl => ?_)
  have hl9 : lv_has ls 3 [(0, .ref b), (1, .int (-1000000)), (2, .int 999)] := lv_sub hl [2, 1, 0] rfl
  refine pw_loop (fun (zz : Int32 × Int32) H locs ls => match zz with | (v24, v25) => va_P D vwCl [(b, .inl (kZ, 1000, .inl g_b))] H ∧ va_S (fun _ : Nat => False) s.heap H locs ∧ lv_has ls 3 [(0, .ref b), (1, .int v24), (2, .int v25)] ∧ (-1 ≤ v25.toInt ∧ v25.toInt ≤ 999)) (fun (zz : Int32 × Int32)  => match zz with | (v24, v25) => (v25.toInt + 1).toNat) 0 0 (fun (zz : Int32 × Int32) ls => match zz with | (v24, v25) => F0 m 8 ls []) (fun zz H locs ls ih26 hI => ?_) ((-1000000), 999) _ _ _ ⟨hP, hS, hl9, (by decide)⟩
  obtain ⟨v24, v25⟩ := zz
  obtain ⟨hP, hS, hl, bv25⟩ := hI
  have bv25 : (-1 ≤ v25.toInt ∧ v25.toInt ≤ 999) := bv25
  have hP : va_P D vwCl [(b, .inl (kZ, 1000, .inl g_b))] H := hP
  have hK : va_K D vwCl [(kZ, .boolean)] s := hK
  have hl : lv_has ls 3 [(0, .ref b), (1, .int v24), (2, .int v25)] := hl
  refine W.eq (g2 := F0 m 8 ls []) rfl ?_
  refine lv_iload_n hx hb dX10_leastOf_8 rfl (lv_at hl 2 rfl) ?_
  refine lv_if_lt (tgt := 30) hx hb dX10_leastOf_9 (by decide) (fun c34 => ?_) (fun c34 => ?_)
  · have nc34 : v25.toInt < 0 := pw_lt c34 rfl (by decide)
    refine lv_iload_n hx hb dX10_leastOf_30 rfl (lv_at hl 1 rfl) ?_
    exact W.iret (v := v24) hx hb hr (fun t ht hW => ⟨⟨v24, (), rfl, trivial, trivial⟩, hS.F ht⟩) hS.2.2 dX10_leastOf_31
  · have nc34 : 0 ≤ v25.toInt := pw_nlt c34 rfl (by decide)
    refine lv_aload_n hx hb dX10_leastOf_12 rfl (lv_at hl 0 rfl) ?_
    refine lv_iload_n hx hb dX10_leastOf_13 rfl (lv_at hl 2 rfl) ?_
    refine va_zald hx hb hK hP 0 0 rfl rfl (vp_in_iff.mpr ⟨by omega, by omega⟩) dX10_leastOf_14 ?_
    refine lv_topi (fun x35 ex35 => ?_)
    refine pw_join (fun (v37 : Int32) H locs ls => va_P D vwCl [(b, .inl (kZ, 1000, .inl g_b))] H ∧ va_S (fun _ : Nat => False) s.heap H locs ∧ lv_has ls 3 [(0, .ref b), (1, .int v24), (2, .int v25)]) 0 0 (fun (v37 : Int32) ls => F0 m 23 ls [.int v37]) (fun v37 H locs ls hI => ?_) (fun hJ38 => ?_)
    ·
      obtain ⟨hP, hS, hl⟩ := hI
      have hP : va_P D vwCl [(b, .inl (kZ, 1000, .inl g_b))] H := hP
      have hK : va_K D vwCl [(kZ, .boolean)] s := hK
      have hl : lv_has ls 3 [(0, .ref b), (1, .int v24), (2, .int v25)] := hl
      refine W.eq (g2 := F0 m 23 ls [.int v37]) rfl ?_
      refine lv_istore_n (lv' := [(1, .int v37), (0, .ref b), (2, .int v25)]) hx hb dX10_leastOf_23 rfl hl (by decide) rfl (fun ls hl => ?_)
      obtain ⟨x39, ex39⟩ : ∃ y : Int32, y = v25 + (-1) := ⟨_, rfl⟩
      have tx39 : x39.toInt = v25.toInt + (-1) := pw_addX ex39 rfl (by decide) (by have h9 := pw_min v25; have h8 := pw_max v25; omega) (by have h9 := pw_min v25; have h8 := pw_max v25; omega)
      refine lv_iinc (v := x39) (lv' := [(2, .int x39), (1, .int v37), (0, .ref b)]) hx hb dX10_leastOf_24 hl (k := 2) rfl (by rw [ex39]; rfl) (by decide) rfl (fun ls hl => ?_)
      refine lv_goto (tgt := 8) hx hb dX10_leastOf_27 (by decide) ?_
      have hP9 : va_P D vwCl [(b, .inl (kZ, 1000, .inl g_b))] H := hP.sub [0] rfl
      have hl9 : lv_has ls 3 [(0, .ref b), (1, .int v37), (2, .int x39)] := lv_sub hl [2, 1, 0] rfl
      refine W.widen (k := 0) (n := 0) (Nat.le_of_ble_eq_true rfl) (Nat.le_of_ble_eq_true rfl) ?_
      exact ih26 (v37, x39) _ _ _ (pw_down ex39 (by omega)) ⟨hP9, hS, hl9, ⟨pw_downge ex39 (by omega), by have := pw_subm ex39 (by omega); omega⟩⟩
    ·
      refine lv_if_eq (tgt := 22) hx hb dX10_leastOf_15 (by decide) (fun c40 => ?_) (fun c40 => ?_)
      · have nc40 : x35.toInt = 0 := pw_eq c40 rfl (by decide)
        refine lv_iload_n hx hb dX10_leastOf_22 rfl (lv_at hl 1 rfl) ?_
        have hP9 : va_P D vwCl [(b, .inl (kZ, 1000, .inl g_b))] H := hP.sub [0] rfl
        have hl9 : lv_has ls 3 [(0, .ref b), (1, .int v24), (2, .int v25)] := lv_sub hl [0, 1, 2] rfl
        refine W.widen (k := 0) (n := 0) (Nat.le_of_ble_eq_true rfl) (Nat.le_of_ble_eq_true rfl) ?_
        exact hJ38 v24 _ _ _ ⟨hP9, hS, hl9⟩
      · have nc40 : x35.toInt ≠ 0 := pw_ne c40 rfl (by decide)
        refine lv_iload_n hx hb dX10_leastOf_18 rfl (lv_at hl 2 rfl) ?_
        refine lv_goto (tgt := 23) hx hb dX10_leastOf_19 (by decide) ?_
        have hP9 : va_P D vwCl [(b, .inl (kZ, 1000, .inl g_b))] H := hP.sub [0] rfl
        have hl9 : lv_has ls 3 [(0, .ref b), (1, .int v24), (2, .int v25)] := lv_sub hl [0, 1, 2] rfl
        refine W.widen (k := 0) (n := 0) (Nat.le_of_ble_eq_true rfl) (Nat.le_of_ble_eq_true rfl) ?_
        exact hJ38 v25 _ _ _ ⟨hP9, hS, hl9⟩
def w_X10_greatestOf : List Cond := .code yX10_greatestOf cX10_greatestOf 3 (some .int) :: ([.constant RX10 61 (-1000000)])
set_option maxHeartbeats 4000000 in
set_option maxRecDepth 100000 in
theorem c_X10_greatestOf (l : Launch) (D : va_G) (b : Nat) (kZ : ClassId) (g_b : Nat → Int32) : Met l yX10_greatestOf w_X10_greatestOf ({ frames := 0, cells := 0, slots := 0, locals := 0 }) (va_Pc [.ref b] (fun U => va_P D vwCl [(b, .inl (kZ, 1000, .inl g_b))] U.heap ∧ va_K D vwCl [(kZ, .boolean)] U)) (va_Qi (fun (r : Int32) (_ : Unit) => True) (fun _ _ => True) (fun _ => False)) 0 0 (fun _ => False) := by
  refine Met.ofW (cc := cX10_greatestOf) (maxL := 3) (ret := (some .int)) (by decide) rfl ?_
  intro p e s m args below meth c s₁ B hml hv
  obtain ⟨rfl, hP, hK⟩ := hv
  have hx := B.exec
  have hb := B.bytes
  have hr := B.returns
  have hts := atoms_spec (ws := w_X10_greatestOf) B.pre
  have hown : s.vm.findClass RX10 = some m.cls := findClass_of_methodNamed B.named
  have hlocks := B.notSynchronized
  have hS : va_S (fun _ : Nat => False) s.heap s.heap [] := va_S.rf
  have hP : va_P D vwCl [(b, .inl (kZ, 1000, .inl g_b))] s.heap := hP
  have hl := lv_entry ([.ref b]) (n := 3) (Nat.le_of_ble_eq_true rfl)
  rw [lg_entry_eq]
  generalize (lg_sl ([.ref b]) ++ List.replicate (3 - (lg_sl ([.ref b])).length) Slot.unset).toArray = ls at hl ⊢
  have hl : lv_has ls 3 [(0, .ref b)] := hl
  obtain ⟨H, hHe⟩ : ∃ H : Heap, H = s.heap := ⟨_, rfl⟩
  rw [← hHe] at hP
  have hS : va_S (fun _ : Nat => False) s.heap H [] := by rw [hHe]; exact hS
  refine pw_heap hHe ?_
  refine lv_ldc hx hb hown (hts (.constant RX10 61 (-1000000)) (List.mem_of_getElem? (i := 1) rfl)) dX10_greatestOf_0 ?_
  refine lv_istore_n (lv' := [(1, .int (-1000000)), (0, .ref b)]) hx hb dX10_greatestOf_2 rfl hl (by decide) rfl (fun ls hl => ?_)
  refine lv_iconst (v := 0) hx hb dX10_greatestOf_3 (by decide) ?_
  refine lv_istore_n (lv' := [(2, .int 0), (1, .int (-1000000)), (0, .ref b)]) hx hb dX10_greatestOf_4 rfl hl (by decide) rfl (fun ls hl => ?_)
  have hl9 : lv_has ls 3 [(0, .ref b), (1, .int (-1000000)), (2, .int 0)] := lv_sub hl [2, 1, 0] rfl
  refine pw_loop (fun (zz : Int32 × Int32) H locs ls => match zz with | (v23, v24) => va_P D vwCl [(b, .inl (kZ, 1000, .inl g_b))] H ∧ va_S (fun _ : Nat => False) s.heap H locs ∧ lv_has ls 3 [(0, .ref b), (1, .int v23), (2, .int v24)] ∧ 0 ≤ v24.toInt) (fun (zz : Int32 × Int32)  => match zz with | (v23, v24) => (2147483648 - v24.toInt).toNat) 0 0 (fun (zz : Int32 × Int32) ls => match zz with | (v23, v24) => F0 m 5 ls []) (fun zz H locs ls ih25 hI => ?_) ((-1000000), 0) _ _ _ ⟨hP, hS, hl9, (by decide)⟩
  obtain ⟨v23, v24⟩ := zz
  obtain ⟨hP, hS, hl, bv24⟩ := hI
  have bv24 : 0 ≤ v24.toInt := bv24
  have hP : va_P D vwCl [(b, .inl (kZ, 1000, .inl g_b))] H := hP
  have hK : va_K D vwCl [(kZ, .boolean)] s := hK
  have hl : lv_has ls 3 [(0, .ref b), (1, .int v23), (2, .int v24)] := hl
  refine W.eq (g2 := F0 m 5 ls []) rfl ?_
  refine lv_iload_n hx hb dX10_greatestOf_5 rfl (lv_at hl 2 rfl) ?_
  refine lv_aload_n hx hb dX10_greatestOf_6 rfl (lv_at hl 0 rfl) ?_
  refine va_alen (v := 1000) hx hb hK hP 0 0 rfl rfl rfl dX10_greatestOf_7 ?_
  refine lv_icmp_ge (tgt := 29) hx hb dX10_greatestOf_8 (by decide) (fun c33 => ?_) (fun c33 => ?_)
  · have nc33 : 1000 ≤ v24.toInt := pw_le c33 (by decide) rfl
    refine lv_iload_n hx hb dX10_greatestOf_29 rfl (lv_at hl 1 rfl) ?_
    exact W.iret (v := v23) hx hb hr (fun t ht hW => ⟨⟨v23, (), rfl, trivial, trivial⟩, hS.F ht⟩) hS.2.2 dX10_greatestOf_30
  · have nc33 : v24.toInt < 1000 := pw_nle c33 (by decide) rfl
    refine lv_aload_n hx hb dX10_greatestOf_11 rfl (lv_at hl 0 rfl) ?_
    refine lv_iload_n hx hb dX10_greatestOf_12 rfl (lv_at hl 2 rfl) ?_
    refine va_zald hx hb hK hP 0 0 rfl rfl (vp_in_iff.mpr ⟨by omega, by omega⟩) dX10_greatestOf_13 ?_
    refine lv_topi (fun x34 ex34 => ?_)
    refine pw_join (fun (v36 : Int32) H locs ls => va_P D vwCl [(b, .inl (kZ, 1000, .inl g_b))] H ∧ va_S (fun _ : Nat => False) s.heap H locs ∧ lv_has ls 3 [(0, .ref b), (1, .int v23), (2, .int v24)]) 0 0 (fun (v36 : Int32) ls => F0 m 22 ls [.int v36]) (fun v36 H locs ls hI => ?_) (fun hJ37 => ?_)
    ·
      obtain ⟨hP, hS, hl⟩ := hI
      have hP : va_P D vwCl [(b, .inl (kZ, 1000, .inl g_b))] H := hP
      have hK : va_K D vwCl [(kZ, .boolean)] s := hK
      have hl : lv_has ls 3 [(0, .ref b), (1, .int v23), (2, .int v24)] := hl
      refine W.eq (g2 := F0 m 22 ls [.int v36]) rfl ?_
      refine lv_istore_n (lv' := [(1, .int v36), (0, .ref b), (2, .int v24)]) hx hb dX10_greatestOf_22 rfl hl (by decide) rfl (fun ls hl => ?_)
      obtain ⟨x38, ex38⟩ : ∃ y : Int32, y = v24 + 1 := ⟨_, rfl⟩
      have tx38 : x38.toInt = v24.toInt + 1 := pw_addX ex38 rfl (by decide) (by omega) (by omega)
      refine lv_iinc (v := x38) (lv' := [(2, .int x38), (1, .int v36), (0, .ref b)]) hx hb dX10_greatestOf_23 hl (k := 2) rfl (by rw [ex38]; rfl) (by decide) rfl (fun ls hl => ?_)
      refine lv_goto (tgt := 5) hx hb dX10_greatestOf_26 (by decide) ?_
      have hP9 : va_P D vwCl [(b, .inl (kZ, 1000, .inl g_b))] H := hP.sub [0] rfl
      have hl9 : lv_has ls 3 [(0, .ref b), (1, .int v36), (2, .int x38)] := lv_sub hl [2, 1, 0] rfl
      refine W.widen (k := 0) (n := 0) (Nat.le_of_ble_eq_true rfl) (Nat.le_of_ble_eq_true rfl) ?_
      exact ih25 (v36, x38) _ _ _ (pw_up ex38 (by omega)) ⟨hP9, hS, hl9, (pw_upge ex38 (by omega) (by omega))⟩
    ·
      refine lv_if_eq (tgt := 21) hx hb dX10_greatestOf_14 (by decide) (fun c39 => ?_) (fun c39 => ?_)
      · have nc39 : x34.toInt = 0 := pw_eq c39 rfl (by decide)
        refine lv_iload_n hx hb dX10_greatestOf_21 rfl (lv_at hl 1 rfl) ?_
        have hP9 : va_P D vwCl [(b, .inl (kZ, 1000, .inl g_b))] H := hP.sub [0] rfl
        have hl9 : lv_has ls 3 [(0, .ref b), (1, .int v23), (2, .int v24)] := lv_sub hl [0, 1, 2] rfl
        refine W.widen (k := 0) (n := 0) (Nat.le_of_ble_eq_true rfl) (Nat.le_of_ble_eq_true rfl) ?_
        exact hJ37 v23 _ _ _ ⟨hP9, hS, hl9⟩
      · have nc39 : x34.toInt ≠ 0 := pw_ne c39 rfl (by decide)
        refine lv_iload_n hx hb dX10_greatestOf_17 rfl (lv_at hl 2 rfl) ?_
        refine lv_goto (tgt := 22) hx hb dX10_greatestOf_18 (by decide) ?_
        have hP9 : va_P D vwCl [(b, .inl (kZ, 1000, .inl g_b))] H := hP.sub [0] rfl
        have hl9 : lv_has ls 3 [(0, .ref b), (1, .int v23), (2, .int v24)] := lv_sub hl [0, 1, 2] rfl
        refine W.widen (k := 0) (n := 0) (Nat.le_of_ble_eq_true rfl) (Nat.le_of_ble_eq_true rfl) ?_
        exact hJ37 v24 _ _ _ ⟨hP9, hS, hl9⟩
def w_X10_told : List Cond := .code yX10_told cX10_told 2 (some .int) :: ([.methodLink RX10 84 yX10_greatestOf, .static yX10_greatestOf, .initialized RX10, .code yX10_greatestOf cX10_greatestOf 3 (some .int), .constant RX10 61 (-1000000), .methodLink RX10 81 yX10_leastOf, .static yX10_leastOf, .code yX10_leastOf cX10_leastOf 3 (some .int), .methodLink RX10 77 yX10_manyIn, .static yX10_manyIn, .code yX10_manyIn cX10_manyIn 3 (some .int)])
set_option maxRecDepth 20000 in
theorem g_X10_told_X10_greatestOf : GoodIn w_X10_told (wsS RX10 84 yX10_greatestOf w_X10_greatestOf) := goodIn_r _ [1, 2, 3, 4, 5] rfl (by decide +kernel)
set_option maxRecDepth 20000 in
theorem g_X10_told_X10_leastOf : GoodIn w_X10_told (wsS RX10 81 yX10_leastOf w_X10_leastOf) := goodIn_r _ [6, 7, 3, 8, 5] rfl (by decide +kernel)
set_option maxRecDepth 20000 in
theorem g_X10_told_X10_manyIn : GoodIn w_X10_told (wsS RX10 77 yX10_manyIn w_X10_manyIn) := goodIn_r _ [9, 10, 3, 11] rfl (by decide +kernel)
set_option maxHeartbeats 4000000 in
set_option maxRecDepth 100000 in
theorem c_X10_told (l : Launch) (D : va_G) (b : Nat) (i_w : Int32) (kZ : ClassId) (g_b : Nat → Int32) : Met l yX10_told w_X10_told ({ frames := 1, cells := 0, slots := 0, locals := 22 }) (va_Pc [.ref b, .int i_w] (fun U => va_P D vwCl [(b, .inl (kZ, 1000, .inl g_b))] U.heap ∧ va_K D vwCl [(kZ, .boolean)] U)) (va_Qi (fun (r : Int32) (_ : Unit) => True) (fun _ _ => True) (fun _ => False)) 0 0 (fun _ => False) := by
  refine Met.ofW (cc := cX10_told) (maxL := 2) (ret := (some .int)) (by decide) rfl ?_
  intro p e s m args below meth c s₁ B hml hv
  obtain ⟨rfl, hP, hK⟩ := hv
  have hx := B.exec
  have hb := B.bytes
  have hr := B.returns
  have hts := atoms_spec (ws := w_X10_told) B.pre
  have hown : s.vm.findClass RX10 = some m.cls := findClass_of_methodNamed B.named
  have hlocks := B.notSynchronized
  have hS : va_S (fun _ : Nat => False) s.heap s.heap [] := va_S.rf
  have hP : va_P D vwCl [(b, .inl (kZ, 1000, .inl g_b))] s.heap := hP
  have hl := lv_entry ([.ref b, .int i_w]) (n := 2) (Nat.le_of_ble_eq_true rfl)
  rw [lg_entry_eq]
  generalize (lg_sl ([.ref b, .int i_w]) ++ List.replicate (2 - (lg_sl ([.ref b, .int i_w])).length) Slot.unset).toArray = ls at hl ⊢
  have hl : lv_has ls 2 [(0, .ref b), (1, .int i_w)] := hl
  obtain ⟨H, hHe⟩ : ∃ H : Heap, H = s.heap := ⟨_, rfl⟩
  rw [← hHe] at hP
  have hS : va_S (fun _ : Nat => False) s.heap H [] := by rw [hHe]; exact hS
  refine pw_heap hHe ?_
  refine lv_iload_n hx hb dX10_told_0 rfl (lv_at hl 1 rfl) ?_
  refine lv_if_ne (tgt := 11) hx hb dX10_told_1 (by decide) (fun c1 => ?_) (fun c1 => ?_)
  · have nc1 : i_w.toInt ≠ 0 := pw_ne c1 rfl (by decide)
    refine lv_iload_n hx hb dX10_told_11 rfl (lv_at hl 1 rfl) ?_
    refine lv_iconst (v := 1) hx hb dX10_told_12 (by decide) ?_
    refine lv_icmp_ne (tgt := 23) hx hb dX10_told_13 (by decide) (fun c2 => ?_) (fun c2 => ?_)
    · have nc2 : i_w.toInt ≠ 1 := pw_ne c2 rfl (by decide)
      refine lv_aload_n hx hb dX10_told_23 rfl (lv_at hl 0 rfl) ?_
      have hPc := hP.sub (ws' := [(b, .inl (kZ, 1000, .inl g_b))]) [0] rfl
      have hKc := hK.sub (tys' := [(kZ, .boolean)]) [0] rfl
      refine va_calli (va_runS (As := [.ref b]) (rest := []) ⟨hx, hb, hml, hown, hts⟩ (c_X10_greatestOf l D b kZ g_b) (cwS 1 hts g_X10_told_X10_greatestOf rfl rfl rfl (by decide +kernel) ⟨Nat.le_of_ble_eq_true rfl, Nat.le_of_ble_eq_true rfl⟩) ⟨fun a U g mk q => by obtain ⟨q0, qP, qK⟩ := q; exact ⟨q0, qP, va_K.moved (u := U) (U := U.calling g mk a) (Vm.Alike.refl U.vm) qK⟩, fun U hU hW => ⟨rfl, by rw [hU]; exact hPc, va_K.moved hW.alike hKc⟩⟩ rfl rfl hl.1 rfl (lv_room (Nat.le_of_ble_eq_true rfl)) dX10_told_24 ⟨Nat.le_of_ble_eq_true rfl, Nat.le_of_ble_eq_true rfl⟩) hS (fun _ _ h => h.elim) (fun _ h => h.elim) (fun r3 u t H1 locs ht hvm hw hB hz1 hk1 hS => ?_)
      have hP := pw_keep hP (fun q hq => hk1 q hq (fun h => h))
      generalize H1 = H at hP hS ⊢
      refine W.widen (k := 0) (n := 0) (Nat.le_of_ble_eq_true rfl) (Nat.le_of_ble_eq_true rfl) ?_
      exact W.iret (v := r3) hx hb hr (fun t ht hW => ⟨⟨r3, (), rfl, trivial, trivial⟩, hS.F ht⟩) hS.2.2 dX10_told_27
    · have nc2 : i_w.toInt = 1 := pw_eq c2 rfl (by decide)
      refine lv_aload_n hx hb dX10_told_16 rfl (lv_at hl 0 rfl) ?_
      have hPc := hP.sub (ws' := [(b, .inl (kZ, 1000, .inl g_b))]) [0] rfl
      have hKc := hK.sub (tys' := [(kZ, .boolean)]) [0] rfl
      refine va_calli (va_runS (As := [.ref b]) (rest := []) ⟨hx, hb, hml, hown, hts⟩ (c_X10_leastOf l D b kZ g_b) (cwS 1 hts g_X10_told_X10_leastOf rfl rfl rfl (by decide +kernel) ⟨Nat.le_of_ble_eq_true rfl, Nat.le_of_ble_eq_true rfl⟩) ⟨fun a U g mk q => by obtain ⟨q0, qP, qK⟩ := q; exact ⟨q0, qP, va_K.moved (u := U) (U := U.calling g mk a) (Vm.Alike.refl U.vm) qK⟩, fun U hU hW => ⟨rfl, by rw [hU]; exact hPc, va_K.moved hW.alike hKc⟩⟩ rfl rfl hl.1 rfl (lv_room (Nat.le_of_ble_eq_true rfl)) dX10_told_17 ⟨Nat.le_of_ble_eq_true rfl, Nat.le_of_ble_eq_true rfl⟩) hS (fun _ _ h => h.elim) (fun _ h => h.elim) (fun r4 u t H1 locs ht hvm hw hB hz1 hk1 hS => ?_)
      have hP := pw_keep hP (fun q hq => hk1 q hq (fun h => h))
      generalize H1 = H at hP hS ⊢
      refine W.widen (k := 0) (n := 0) (Nat.le_of_ble_eq_true rfl) (Nat.le_of_ble_eq_true rfl) ?_
      refine lv_goto (tgt := 27) hx hb dX10_told_20 (by decide) ?_
      exact W.iret (v := r4) hx hb hr (fun t ht hW => ⟨⟨r4, (), rfl, trivial, trivial⟩, hS.F ht⟩) hS.2.2 dX10_told_27
  · have nc1 : i_w.toInt = 0 := pw_eq c1 rfl (by decide)
    refine lv_aload_n hx hb dX10_told_4 rfl (lv_at hl 0 rfl) ?_
    have hPc := hP.sub (ws' := [(b, .inl (kZ, 1000, .inl g_b))]) [0] rfl
    have hKc := hK.sub (tys' := [(kZ, .boolean)]) [0] rfl
    refine va_calli (va_runS (As := [.ref b]) (rest := []) ⟨hx, hb, hml, hown, hts⟩ (c_X10_manyIn l D b kZ g_b) (cwS 1 hts g_X10_told_X10_manyIn rfl rfl rfl (by decide +kernel) ⟨Nat.le_of_ble_eq_true rfl, Nat.le_of_ble_eq_true rfl⟩) ⟨fun a U g mk q => by obtain ⟨q0, qP, qK⟩ := q; exact ⟨q0, qP, va_K.moved (u := U) (U := U.calling g mk a) (Vm.Alike.refl U.vm) qK⟩, fun U hU hW => ⟨rfl, by rw [hU]; exact hPc, va_K.moved hW.alike hKc⟩⟩ rfl rfl hl.1 rfl (lv_room (Nat.le_of_ble_eq_true rfl)) dX10_told_5 ⟨Nat.le_of_ble_eq_true rfl, Nat.le_of_ble_eq_true rfl⟩) hS (fun _ _ h => h.elim) (fun _ h => h.elim) (fun r5 u t H1 locs ht hvm hw hB hz1 hk1 hS => ?_)
    have hP := pw_keep hP (fun q hq => hk1 q hq (fun h => h))
    generalize H1 = H at hP hS ⊢
    refine W.widen (k := 0) (n := 0) (Nat.le_of_ble_eq_true rfl) (Nat.le_of_ble_eq_true rfl) ?_
    refine lv_goto (tgt := 27) hx hb dX10_told_8 (by decide) ?_
    exact W.iret (v := r5) hx hb hr (fun t ht hW => ⟨⟨r5, (), rfl, trivial, trivial⟩, hS.F ht⟩) hS.2.2 dX10_told_27
def w_X10_clears__2 : List Cond := .code yX10_clears cX10_clears 2 none :: ([])
set_option maxHeartbeats 4000000 in
set_option maxRecDepth 100000 in
theorem c_X10_clears__2 (l : Launch) (D : va_G) (b : Nat) (kZ : ClassId) (g_b : Nat → Int32) (sz : Nat) : Met l yX10_clears w_X10_clears__2 ({ frames := 0, cells := 0, slots := 0, locals := 0 }) (va_Pc [.ref b] (fun U => U.heap.size = sz ∧ va_P D vwCl [(b, .inl (kZ, 200, .inl g_b))] U.heap ∧ va_K D vwCl [(kZ, .boolean)] U ∧ va_D (fun _ => True) [(b, .inl (kZ, 200, .inl g_b))])) (va_Qv (fun (_ : Unit) => True) (fun (_ : Unit) t => ∃ (n_b : Nat → Int32), va_P D vwCl [(b, .inl (kZ, 200, .inl n_b))] t.heap ∧ va_K D vwCl [(kZ, .boolean)] t ∧ va_D (va_A [(b, .inl (kZ, 200, .inl g_b))] sz) [(b, .inl (kZ, 200, .inl n_b))]) (va_A [(b, .inl (kZ, 200, .inl g_b))] sz)) 0 0 (va_A [(b, .inl (kZ, 200, .inl g_b))] sz) := by
  refine Met.ofW (cc := cX10_clears) (maxL := 2) (ret := none) (by decide) rfl ?_
  intro p e s m args below meth c s₁ B hml hv
  obtain ⟨rfl, hsz, hP, hK, hD0⟩ := hv
  have hx := B.exec
  have hb := B.bytes
  have hr := B.returns
  have hts := atoms_spec (ws := w_X10_clears__2) B.pre
  have hown : s.vm.findClass RX10 = some m.cls := findClass_of_methodNamed B.named
  have hlocks := B.notSynchronized
  subst hsz
  have hD := hD0.self (sz := s.heap.size)
  generalize hAe : va_A [(b, .inl (kZ, 200, .inl g_b))] s.heap.size = A at hD ⊢
  have hA : ∀ q : Nat, s.heap.size ≤ q → A q := fun q h => by rw [← hAe]; exact Or.inr h
  have hS : va_S A s.heap s.heap [] := va_S.rf
  have hP : va_P D vwCl [(b, .inl (kZ, 200, .inl g_b))] s.heap := hP
  have hl := lv_entry ([.ref b]) (n := 2) (Nat.le_of_ble_eq_true rfl)
  rw [lg_entry_eq]
  generalize (lg_sl ([.ref b]) ++ List.replicate (2 - (lg_sl ([.ref b])).length) Slot.unset).toArray = ls at hl ⊢
  have hl : lv_has ls 2 [(0, .ref b)] := hl
  obtain ⟨H, hHe⟩ : ∃ H : Heap, H = s.heap := ⟨_, rfl⟩
  rw [← hHe] at hP
  have hS : va_S A s.heap H [] := by rw [hHe]; exact hS
  refine pw_heap hHe ?_
  refine lv_iconst (v := 0) hx hb dX10_clears_0 (by decide) ?_
  refine lv_istore_n (lv' := [(1, .int 0), (0, .ref b)]) hx hb dX10_clears_1 rfl hl (by decide) rfl (fun ls hl => ?_)
  have hl9 : lv_has ls 2 [(0, .ref b), (1, .int 0)] := lv_sub hl [1, 0] rfl
  refine pw_loop (fun (zz : Int32 × (Nat → Int32)) H locs ls => match zz with | (v8, f9) => va_P D vwCl [(b, .inl (kZ, 200, .inl f9))] H ∧ va_D A [(b, .inl (kZ, 200, .inl f9))] ∧ va_S A s.heap H locs ∧ lv_has ls 2 [(0, .ref b), (1, .int v8)] ∧ 0 ≤ v8.toInt) (fun (zz : Int32 × (Nat → Int32))  => match zz with | (v8, f9) => (2147483648 - v8.toInt).toNat) 0 0 (fun (zz : Int32 × (Nat → Int32)) ls => match zz with | (v8, f9) => F0 m 2 ls []) (fun zz H locs ls ih10 hI => ?_) (0, g_b) _ _ _ ⟨hP, hD, hS, hl9, (by decide)⟩
  obtain ⟨v8, f9⟩ := zz
  obtain ⟨hP, hD, hS, hl, bv8⟩ := hI
  have bv8 : 0 ≤ v8.toInt := bv8
  have hP : va_P D vwCl [(b, .inl (kZ, 200, .inl f9))] H := hP
  have hD : va_D A [(b, .inl (kZ, 200, .inl f9))] := hD
  have hK : va_K D vwCl [(kZ, .boolean)] s := hK
  have hl : lv_has ls 2 [(0, .ref b), (1, .int v8)] := hl
  refine W.eq (g2 := F0 m 2 ls []) rfl ?_
  refine lv_iload_n hx hb dX10_clears_2 rfl (lv_at hl 1 rfl) ?_
  refine lv_aload_n hx hb dX10_clears_3 rfl (lv_at hl 0 rfl) ?_
  refine va_alen (v := 200) hx hb hK hP 0 0 rfl rfl rfl dX10_clears_4 ?_
  refine lv_icmp_ge (tgt := 18) hx hb dX10_clears_5 (by decide) (fun c11 => ?_) (fun c11 => ?_)
  · have nc11 : 200 ≤ v8.toInt := pw_le c11 (by decide) rfl
    have hP9 := hP.sub (ws' := [(b, .inl (kZ, 200, .inl f9))]) [0] rfl
    have hD9 := hD.sub (ws' := [(b, .inl (kZ, 200, .inl f9))]) [0] (by decide) rfl
    have hK9 := hK.sub (tys' := [(kZ, .boolean)]) [0] rfl
    refine W.widen (k := 0) (n := 0) (Nat.le_of_ble_eq_true rfl) (Nat.le_of_ble_eq_true rfl) ?_
    exact W.vret hx hb hr (fun t ht hW => ⟨⟨(), rfl, trivial, f9, by rw [ht]; exact hP9, va_K.moved hW.alike hK9, hD9⟩, hS.F ht⟩) hS.2.2 dX10_clears_18
  · have nc11 : v8.toInt < 200 := pw_nle c11 (by decide) rfl
    refine lv_aload_n hx hb dX10_clears_8 rfl (lv_at hl 0 rfl) ?_
    refine lv_iload_n hx hb dX10_clears_9 rfl (lv_at hl 1 rfl) ?_
    refine lv_iconst (v := 0) hx hb dX10_clears_10 (by decide) ?_
    refine va_zast hx hb hK hP hD hS 0 0 rfl rfl (vp_in_iff.mpr ⟨by omega, by omega⟩) dX10_clears_11 (fun H locs hP hD hS => ?_)
    obtain ⟨g12, eg12⟩ : ∃ g : Nat → Int32, g = upd f9 (v8 : Int32).toNatClampNeg (vp_nar .boolean 0) := ⟨_, rfl⟩
    have hP : va_P D vwCl [(b, .inl (kZ, 200, .inl (upd f9 (v8 : Int32).toNatClampNeg (vp_nar .boolean 0))))] H := hP
    have hD : va_D A [(b, .inl (kZ, 200, .inl (upd f9 (v8 : Int32).toNatClampNeg (vp_nar .boolean 0))))] := hD
    have hK : va_K D vwCl [(kZ, .boolean)] s := hK
    rw [← eg12] at hP hD
    obtain ⟨x13, ex13⟩ : ∃ y : Int32, y = v8 + 1 := ⟨_, rfl⟩
    have tx13 : x13.toInt = v8.toInt + 1 := pw_addX ex13 rfl (by decide) (by omega) (by omega)
    refine lv_iinc (v := x13) (lv' := [(1, .int x13), (0, .ref b)]) hx hb dX10_clears_12 hl (k := 1) rfl (by rw [ex13]; rfl) (by decide) rfl (fun ls hl => ?_)
    refine lv_goto (tgt := 2) hx hb dX10_clears_15 (by decide) ?_
    have hP9 : va_P D vwCl [(b, .inl (kZ, 200, .inl g12))] H := hP.sub [0] rfl
    have hD9 : va_D A [(b, .inl (kZ, 200, .inl g12))] := hD.sub [0] (by decide) rfl
    have hl9 : lv_has ls 2 [(0, .ref b), (1, .int x13)] := lv_sub hl [1, 0] rfl
    refine W.widen (k := 0) (n := 0) (Nat.le_of_ble_eq_true rfl) (Nat.le_of_ble_eq_true rfl) ?_
    exact ih10 (x13, g12) _ _ _ (pw_up ex13 (by omega)) ⟨hP9, hD9, hS, hl9, (pw_upge ex13 (by omega) (by omega))⟩
def w_X10_manyIn__2 : List Cond := .code yX10_manyIn cX10_manyIn 3 (some .int) :: ([])
set_option maxHeartbeats 4000000 in
set_option maxRecDepth 100000 in
theorem c_X10_manyIn__2 (l : Launch) (D : va_G) (b : Nat) (kZ : ClassId) (g_b : Nat → Int32) : Met l yX10_manyIn w_X10_manyIn__2 ({ frames := 0, cells := 0, slots := 0, locals := 0 }) (va_Pc [.ref b] (fun U => va_P D vwCl [(b, .inl (kZ, 200, .inl g_b))] U.heap ∧ va_K D vwCl [(kZ, .boolean)] U)) (va_Qi (fun (r : Int32) (_ : Unit) => True) (fun _ _ => True) (fun _ => False)) 0 0 (fun _ => False) := by
  refine Met.ofW (cc := cX10_manyIn) (maxL := 3) (ret := (some .int)) (by decide) rfl ?_
  intro p e s m args below meth c s₁ B hml hv
  obtain ⟨rfl, hP, hK⟩ := hv
  have hx := B.exec
  have hb := B.bytes
  have hr := B.returns
  have hts := atoms_spec (ws := w_X10_manyIn__2) B.pre
  have hown : s.vm.findClass RX10 = some m.cls := findClass_of_methodNamed B.named
  have hlocks := B.notSynchronized
  have hS : va_S (fun _ : Nat => False) s.heap s.heap [] := va_S.rf
  have hP : va_P D vwCl [(b, .inl (kZ, 200, .inl g_b))] s.heap := hP
  have hl := lv_entry ([.ref b]) (n := 3) (Nat.le_of_ble_eq_true rfl)
  rw [lg_entry_eq]
  generalize (lg_sl ([.ref b]) ++ List.replicate (3 - (lg_sl ([.ref b])).length) Slot.unset).toArray = ls at hl ⊢
  have hl : lv_has ls 3 [(0, .ref b)] := hl
  obtain ⟨H, hHe⟩ : ∃ H : Heap, H = s.heap := ⟨_, rfl⟩
  rw [← hHe] at hP
  have hS : va_S (fun _ : Nat => False) s.heap H [] := by rw [hHe]; exact hS
  refine pw_heap hHe ?_
  refine lv_iconst (v := 0) hx hb dX10_manyIn_0 (by decide) ?_
  refine lv_istore_n (lv' := [(1, .int 0), (0, .ref b)]) hx hb dX10_manyIn_1 rfl hl (by decide) rfl (fun ls hl => ?_)
  refine lv_iconst (v := 0) hx hb dX10_manyIn_2 (by decide) ?_
  refine lv_istore_n (lv' := [(2, .int 0), (1, .int 0), (0, .ref b)]) hx hb dX10_manyIn_3 rfl hl (by decide) rfl (fun ls hl => ?_)
  have hl9 : lv_has ls 3 [(0, .ref b), (1, .int 0), (2, .int 0)] := lv_sub hl [2, 1, 0] rfl
  refine pw_loop (fun (zz : Int32 × Int32) H locs ls => match zz with | (v26, v27) => va_P D vwCl [(b, .inl (kZ, 200, .inl g_b))] H ∧ va_S (fun _ : Nat => False) s.heap H locs ∧ lv_has ls 3 [(0, .ref b), (1, .int v26), (2, .int v27)] ∧ 0 ≤ v27.toInt) (fun (zz : Int32 × Int32)  => match zz with | (v26, v27) => (2147483648 - v27.toInt).toNat) 0 0 (fun (zz : Int32 × Int32) ls => match zz with | (v26, v27) => F0 m 4 ls []) (fun zz H locs ls ih28 hI => ?_) (0, 0) _ _ _ ⟨hP, hS, hl9, (by decide)⟩
  obtain ⟨v26, v27⟩ := zz
  obtain ⟨hP, hS, hl, bv27⟩ := hI
  have bv27 : 0 ≤ v27.toInt := bv27
  have hP : va_P D vwCl [(b, .inl (kZ, 200, .inl g_b))] H := hP
  have hK : va_K D vwCl [(kZ, .boolean)] s := hK
  have hl : lv_has ls 3 [(0, .ref b), (1, .int v26), (2, .int v27)] := hl
  refine W.eq (g2 := F0 m 4 ls []) rfl ?_
  refine lv_iload_n hx hb dX10_manyIn_4 rfl (lv_at hl 2 rfl) ?_
  refine lv_aload_n hx hb dX10_manyIn_5 rfl (lv_at hl 0 rfl) ?_
  refine va_alen (v := 200) hx hb hK hP 0 0 rfl rfl rfl dX10_manyIn_6 ?_
  refine lv_icmp_ge (tgt := 30) hx hb dX10_manyIn_7 (by decide) (fun c37 => ?_) (fun c37 => ?_)
  · have nc37 : 200 ≤ v27.toInt := pw_le c37 (by decide) rfl
    refine lv_iload_n hx hb dX10_manyIn_30 rfl (lv_at hl 1 rfl) ?_
    exact W.iret (v := v26) hx hb hr (fun t ht hW => ⟨⟨v26, (), rfl, trivial, trivial⟩, hS.F ht⟩) hS.2.2 dX10_manyIn_31
  · have nc37 : v27.toInt < 200 := pw_nle c37 (by decide) rfl
    refine lv_iload_n hx hb dX10_manyIn_10 rfl (lv_at hl 1 rfl) ?_
    refine lv_aload_n hx hb dX10_manyIn_11 rfl (lv_at hl 0 rfl) ?_
    refine lv_iload_n hx hb dX10_manyIn_12 rfl (lv_at hl 2 rfl) ?_
    refine va_zald hx hb hK hP 0 0 rfl rfl (vp_in_iff.mpr ⟨by omega, by omega⟩) dX10_manyIn_13 ?_
    refine lv_topi (fun x38 ex38 => ?_)
    refine pw_join (fun (v40 : Int32) H locs ls => va_P D vwCl [(b, .inl (kZ, 200, .inl g_b))] H ∧ va_S (fun _ : Nat => False) s.heap H locs ∧ lv_has ls 3 [(0, .ref b), (1, .int v26), (2, .int v27)]) 0 0 (fun (v40 : Int32) ls => F0 m 22 ls [.int v40, .int v26]) (fun v40 H locs ls hI => ?_) (fun hJ41 => ?_)
    ·
      obtain ⟨hP, hS, hl⟩ := hI
      have hP : va_P D vwCl [(b, .inl (kZ, 200, .inl g_b))] H := hP
      have hK : va_K D vwCl [(kZ, .boolean)] s := hK
      have hl : lv_has ls 3 [(0, .ref b), (1, .int v26), (2, .int v27)] := hl
      refine W.eq (g2 := F0 m 22 ls [.int v40, .int v26]) rfl ?_
      refine lv_iadd hx hb dX10_manyIn_22 ?_
      refine lv_topi (fun x42 ex42 => ?_)
      refine lv_istore_n (lv' := [(1, .int x42), (0, .ref b), (2, .int v27)]) hx hb dX10_manyIn_23 rfl hl (by decide) rfl (fun ls hl => ?_)
      obtain ⟨x43, ex43⟩ : ∃ y : Int32, y = v27 + 1 := ⟨_, rfl⟩
      have tx43 : x43.toInt = v27.toInt + 1 := pw_addX ex43 rfl (by decide) (by omega) (by omega)
      refine lv_iinc (v := x43) (lv' := [(2, .int x43), (1, .int x42), (0, .ref b)]) hx hb dX10_manyIn_24 hl (k := 2) rfl (by rw [ex43]; rfl) (by decide) rfl (fun ls hl => ?_)
      refine lv_goto (tgt := 4) hx hb dX10_manyIn_27 (by decide) ?_
      have hP9 : va_P D vwCl [(b, .inl (kZ, 200, .inl g_b))] H := hP.sub [0] rfl
      have hl9 : lv_has ls 3 [(0, .ref b), (1, .int x42), (2, .int x43)] := lv_sub hl [2, 1, 0] rfl
      refine W.widen (k := 0) (n := 0) (Nat.le_of_ble_eq_true rfl) (Nat.le_of_ble_eq_true rfl) ?_
      exact ih28 (x42, x43) _ _ _ (pw_up ex43 (by omega)) ⟨hP9, hS, hl9, (pw_upge ex43 (by omega) (by omega))⟩
    ·
      refine lv_if_eq (tgt := 21) hx hb dX10_manyIn_14 (by decide) (fun c44 => ?_) (fun c44 => ?_)
      · have nc44 : x38.toInt = 0 := pw_eq c44 rfl (by decide)
        refine lv_iconst (v := 0) hx hb dX10_manyIn_21 (by decide) ?_
        have hP9 : va_P D vwCl [(b, .inl (kZ, 200, .inl g_b))] H := hP.sub [0] rfl
        have hl9 : lv_has ls 3 [(0, .ref b), (1, .int v26), (2, .int v27)] := lv_sub hl [0, 1, 2] rfl
        refine W.widen (k := 0) (n := 0) (Nat.le_of_ble_eq_true rfl) (Nat.le_of_ble_eq_true rfl) ?_
        exact hJ41 0 _ _ _ ⟨hP9, hS, hl9⟩
      · have nc44 : x38.toInt ≠ 0 := pw_ne c44 rfl (by decide)
        refine lv_iconst (v := 1) hx hb dX10_manyIn_17 (by decide) ?_
        refine lv_goto (tgt := 22) hx hb dX10_manyIn_18 (by decide) ?_
        have hP9 : va_P D vwCl [(b, .inl (kZ, 200, .inl g_b))] H := hP.sub [0] rfl
        have hl9 : lv_has ls 3 [(0, .ref b), (1, .int v26), (2, .int v27)] := lv_sub hl [0, 1, 2] rfl
        refine W.widen (k := 0) (n := 0) (Nat.le_of_ble_eq_true rfl) (Nat.le_of_ble_eq_true rfl) ?_
        exact hJ41 1 _ _ _ ⟨hP9, hS, hl9⟩
def w_X10_leastOf__2 : List Cond := .code yX10_leastOf cX10_leastOf 3 (some .int) :: ([.constant RX10 61 (-1000000)])
set_option maxHeartbeats 4000000 in
set_option maxRecDepth 100000 in
theorem c_X10_leastOf__2 (l : Launch) (D : va_G) (b : Nat) (kZ : ClassId) (g_b : Nat → Int32) : Met l yX10_leastOf w_X10_leastOf__2 ({ frames := 0, cells := 0, slots := 0, locals := 0 }) (va_Pc [.ref b] (fun U => va_P D vwCl [(b, .inl (kZ, 200, .inl g_b))] U.heap ∧ va_K D vwCl [(kZ, .boolean)] U)) (va_Qi (fun (r : Int32) (_ : Unit) => True) (fun _ _ => True) (fun _ => False)) 0 0 (fun _ => False) := by
  refine Met.ofW (cc := cX10_leastOf) (maxL := 3) (ret := (some .int)) (by decide) rfl ?_
  intro p e s m args below meth c s₁ B hml hv
  obtain ⟨rfl, hP, hK⟩ := hv
  have hx := B.exec
  have hb := B.bytes
  have hr := B.returns
  have hts := atoms_spec (ws := w_X10_leastOf__2) B.pre
  have hown : s.vm.findClass RX10 = some m.cls := findClass_of_methodNamed B.named
  have hlocks := B.notSynchronized
  have hS : va_S (fun _ : Nat => False) s.heap s.heap [] := va_S.rf
  have hP : va_P D vwCl [(b, .inl (kZ, 200, .inl g_b))] s.heap := hP
  have hl := lv_entry ([.ref b]) (n := 3) (Nat.le_of_ble_eq_true rfl)
  rw [lg_entry_eq]
  generalize (lg_sl ([.ref b]) ++ List.replicate (3 - (lg_sl ([.ref b])).length) Slot.unset).toArray = ls at hl ⊢
  have hl : lv_has ls 3 [(0, .ref b)] := hl
  obtain ⟨H, hHe⟩ : ∃ H : Heap, H = s.heap := ⟨_, rfl⟩
  rw [← hHe] at hP
  have hS : va_S (fun _ : Nat => False) s.heap H [] := by rw [hHe]; exact hS
  refine pw_heap hHe ?_
  refine lv_ldc hx hb hown (hts (.constant RX10 61 (-1000000)) (List.mem_of_getElem? (i := 1) rfl)) dX10_leastOf_0 ?_
  refine lv_istore_n (lv' := [(1, .int (-1000000)), (0, .ref b)]) hx hb dX10_leastOf_2 rfl hl (by decide) rfl (fun ls hl => ?_)
  refine lv_aload_n hx hb dX10_leastOf_3 rfl (lv_at hl 1 rfl) ?_
  refine va_alen (v := 200) hx hb hK hP 0 0 rfl rfl rfl dX10_leastOf_4 ?_
  refine lv_iconst (v := 1) hx hb dX10_leastOf_5 (by decide) ?_
  refine lv_isub hx hb dX10_leastOf_6 ?_
  refine lv_topi (fun x1 ex1 => ?_)
  obtain rfl : x1 = 199 := ex1.trans (by decide)
  refine lv_istore_n (lv' := [(2, .int 199), (1, .int (-1000000)), (0, .ref b)]) hx hb dX10_leastOf_7 rfl hl (by decide) rfl (fun ls hl => ?_)
  have hl9 : lv_has ls 3 [(0, .ref b), (1, .int (-1000000)), (2, .int 199)] := lv_sub hl [2, 1, 0] rfl
  refine pw_loop (fun (zz : Int32 × Int32) H locs ls => match zz with | (v24, v25) => va_P D vwCl [(b, .inl (kZ, 200, .inl g_b))] H ∧ va_S (fun _ : Nat => False) s.heap H locs ∧ lv_has ls 3 [(0, .ref b), (1, .int v24), (2, .int v25)] ∧ (-1 ≤ v25.toInt ∧ v25.toInt ≤ 199)) (fun (zz : Int32 × Int32)  => match zz with | (v24, v25) => (v25.toInt + 1).toNat) 0 0 (fun (zz : Int32 × Int32) ls => match zz with | (v24, v25) => F0 m 8 ls []) (fun zz H locs ls ih26 hI => ?_) ((-1000000), 199) _ _ _ ⟨hP, hS, hl9, (by decide)⟩
  obtain ⟨v24, v25⟩ := zz
  obtain ⟨hP, hS, hl, bv25⟩ := hI
  have bv25 : (-1 ≤ v25.toInt ∧ v25.toInt ≤ 199) := bv25
  have hP : va_P D vwCl [(b, .inl (kZ, 200, .inl g_b))] H := hP
  have hK : va_K D vwCl [(kZ, .boolean)] s := hK
  have hl : lv_has ls 3 [(0, .ref b), (1, .int v24), (2, .int v25)] := hl
  refine W.eq (g2 := F0 m 8 ls []) rfl ?_
  refine lv_iload_n hx hb dX10_leastOf_8 rfl (lv_at hl 2 rfl) ?_
  refine lv_if_lt (tgt := 30) hx hb dX10_leastOf_9 (by decide) (fun c34 => ?_) (fun c34 => ?_)
  · have nc34 : v25.toInt < 0 := pw_lt c34 rfl (by decide)
    refine lv_iload_n hx hb dX10_leastOf_30 rfl (lv_at hl 1 rfl) ?_
    exact W.iret (v := v24) hx hb hr (fun t ht hW => ⟨⟨v24, (), rfl, trivial, trivial⟩, hS.F ht⟩) hS.2.2 dX10_leastOf_31
  · have nc34 : 0 ≤ v25.toInt := pw_nlt c34 rfl (by decide)
    refine lv_aload_n hx hb dX10_leastOf_12 rfl (lv_at hl 0 rfl) ?_
    refine lv_iload_n hx hb dX10_leastOf_13 rfl (lv_at hl 2 rfl) ?_
    refine va_zald hx hb hK hP 0 0 rfl rfl (vp_in_iff.mpr ⟨by omega, by omega⟩) dX10_leastOf_14 ?_
    refine lv_topi (fun x35 ex35 => ?_)
    refine pw_join (fun (v37 : Int32) H locs ls => va_P D vwCl [(b, .inl (kZ, 200, .inl g_b))] H ∧ va_S (fun _ : Nat => False) s.heap H locs ∧ lv_has ls 3 [(0, .ref b), (1, .int v24), (2, .int v25)]) 0 0 (fun (v37 : Int32) ls => F0 m 23 ls [.int v37]) (fun v37 H locs ls hI => ?_) (fun hJ38 => ?_)
    ·
      obtain ⟨hP, hS, hl⟩ := hI
      have hP : va_P D vwCl [(b, .inl (kZ, 200, .inl g_b))] H := hP
      have hK : va_K D vwCl [(kZ, .boolean)] s := hK
      have hl : lv_has ls 3 [(0, .ref b), (1, .int v24), (2, .int v25)] := hl
      refine W.eq (g2 := F0 m 23 ls [.int v37]) rfl ?_
      refine lv_istore_n (lv' := [(1, .int v37), (0, .ref b), (2, .int v25)]) hx hb dX10_leastOf_23 rfl hl (by decide) rfl (fun ls hl => ?_)
      obtain ⟨x39, ex39⟩ : ∃ y : Int32, y = v25 + (-1) := ⟨_, rfl⟩
      have tx39 : x39.toInt = v25.toInt + (-1) := pw_addX ex39 rfl (by decide) (by have h9 := pw_min v25; have h8 := pw_max v25; omega) (by have h9 := pw_min v25; have h8 := pw_max v25; omega)
      refine lv_iinc (v := x39) (lv' := [(2, .int x39), (1, .int v37), (0, .ref b)]) hx hb dX10_leastOf_24 hl (k := 2) rfl (by rw [ex39]; rfl) (by decide) rfl (fun ls hl => ?_)
      refine lv_goto (tgt := 8) hx hb dX10_leastOf_27 (by decide) ?_
      have hP9 : va_P D vwCl [(b, .inl (kZ, 200, .inl g_b))] H := hP.sub [0] rfl
      have hl9 : lv_has ls 3 [(0, .ref b), (1, .int v37), (2, .int x39)] := lv_sub hl [2, 1, 0] rfl
      refine W.widen (k := 0) (n := 0) (Nat.le_of_ble_eq_true rfl) (Nat.le_of_ble_eq_true rfl) ?_
      exact ih26 (v37, x39) _ _ _ (pw_down ex39 (by omega)) ⟨hP9, hS, hl9, ⟨pw_downge ex39 (by omega), by have := pw_subm ex39 (by omega); omega⟩⟩
    ·
      refine lv_if_eq (tgt := 22) hx hb dX10_leastOf_15 (by decide) (fun c40 => ?_) (fun c40 => ?_)
      · have nc40 : x35.toInt = 0 := pw_eq c40 rfl (by decide)
        refine lv_iload_n hx hb dX10_leastOf_22 rfl (lv_at hl 1 rfl) ?_
        have hP9 : va_P D vwCl [(b, .inl (kZ, 200, .inl g_b))] H := hP.sub [0] rfl
        have hl9 : lv_has ls 3 [(0, .ref b), (1, .int v24), (2, .int v25)] := lv_sub hl [0, 1, 2] rfl
        refine W.widen (k := 0) (n := 0) (Nat.le_of_ble_eq_true rfl) (Nat.le_of_ble_eq_true rfl) ?_
        exact hJ38 v24 _ _ _ ⟨hP9, hS, hl9⟩
      · have nc40 : x35.toInt ≠ 0 := pw_ne c40 rfl (by decide)
        refine lv_iload_n hx hb dX10_leastOf_18 rfl (lv_at hl 2 rfl) ?_
        refine lv_goto (tgt := 23) hx hb dX10_leastOf_19 (by decide) ?_
        have hP9 : va_P D vwCl [(b, .inl (kZ, 200, .inl g_b))] H := hP.sub [0] rfl
        have hl9 : lv_has ls 3 [(0, .ref b), (1, .int v24), (2, .int v25)] := lv_sub hl [0, 1, 2] rfl
        refine W.widen (k := 0) (n := 0) (Nat.le_of_ble_eq_true rfl) (Nat.le_of_ble_eq_true rfl) ?_
        exact hJ38 v25 _ _ _ ⟨hP9, hS, hl9⟩
def w_X10_greatestOf__2 : List Cond := .code yX10_greatestOf cX10_greatestOf 3 (some .int) :: ([.constant RX10 61 (-1000000)])
set_option maxHeartbeats 4000000 in
set_option maxRecDepth 100000 in
theorem c_X10_greatestOf__2 (l : Launch) (D : va_G) (b : Nat) (kZ : ClassId) (g_b : Nat → Int32) : Met l yX10_greatestOf w_X10_greatestOf__2 ({ frames := 0, cells := 0, slots := 0, locals := 0 }) (va_Pc [.ref b] (fun U => va_P D vwCl [(b, .inl (kZ, 200, .inl g_b))] U.heap ∧ va_K D vwCl [(kZ, .boolean)] U)) (va_Qi (fun (r : Int32) (_ : Unit) => True) (fun _ _ => True) (fun _ => False)) 0 0 (fun _ => False) := by
  refine Met.ofW (cc := cX10_greatestOf) (maxL := 3) (ret := (some .int)) (by decide) rfl ?_
  intro p e s m args below meth c s₁ B hml hv
  obtain ⟨rfl, hP, hK⟩ := hv
  have hx := B.exec
  have hb := B.bytes
  have hr := B.returns
  have hts := atoms_spec (ws := w_X10_greatestOf__2) B.pre
  have hown : s.vm.findClass RX10 = some m.cls := findClass_of_methodNamed B.named
  have hlocks := B.notSynchronized
  have hS : va_S (fun _ : Nat => False) s.heap s.heap [] := va_S.rf
  have hP : va_P D vwCl [(b, .inl (kZ, 200, .inl g_b))] s.heap := hP
  have hl := lv_entry ([.ref b]) (n := 3) (Nat.le_of_ble_eq_true rfl)
  rw [lg_entry_eq]
  generalize (lg_sl ([.ref b]) ++ List.replicate (3 - (lg_sl ([.ref b])).length) Slot.unset).toArray = ls at hl ⊢
  have hl : lv_has ls 3 [(0, .ref b)] := hl
  obtain ⟨H, hHe⟩ : ∃ H : Heap, H = s.heap := ⟨_, rfl⟩
  rw [← hHe] at hP
  have hS : va_S (fun _ : Nat => False) s.heap H [] := by rw [hHe]; exact hS
  refine pw_heap hHe ?_
  refine lv_ldc hx hb hown (hts (.constant RX10 61 (-1000000)) (List.mem_of_getElem? (i := 1) rfl)) dX10_greatestOf_0 ?_
  refine lv_istore_n (lv' := [(1, .int (-1000000)), (0, .ref b)]) hx hb dX10_greatestOf_2 rfl hl (by decide) rfl (fun ls hl => ?_)
  refine lv_iconst (v := 0) hx hb dX10_greatestOf_3 (by decide) ?_
  refine lv_istore_n (lv' := [(2, .int 0), (1, .int (-1000000)), (0, .ref b)]) hx hb dX10_greatestOf_4 rfl hl (by decide) rfl (fun ls hl => ?_)
  have hl9 : lv_has ls 3 [(0, .ref b), (1, .int (-1000000)), (2, .int 0)] := lv_sub hl [2, 1, 0] rfl
  refine pw_loop (fun (zz : Int32 × Int32) H locs ls => match zz with | (v23, v24) => va_P D vwCl [(b, .inl (kZ, 200, .inl g_b))] H ∧ va_S (fun _ : Nat => False) s.heap H locs ∧ lv_has ls 3 [(0, .ref b), (1, .int v23), (2, .int v24)] ∧ 0 ≤ v24.toInt) (fun (zz : Int32 × Int32)  => match zz with | (v23, v24) => (2147483648 - v24.toInt).toNat) 0 0 (fun (zz : Int32 × Int32) ls => match zz with | (v23, v24) => F0 m 5 ls []) (fun zz H locs ls ih25 hI => ?_) ((-1000000), 0) _ _ _ ⟨hP, hS, hl9, (by decide)⟩
  obtain ⟨v23, v24⟩ := zz
  obtain ⟨hP, hS, hl, bv24⟩ := hI
  have bv24 : 0 ≤ v24.toInt := bv24
  have hP : va_P D vwCl [(b, .inl (kZ, 200, .inl g_b))] H := hP
  have hK : va_K D vwCl [(kZ, .boolean)] s := hK
  have hl : lv_has ls 3 [(0, .ref b), (1, .int v23), (2, .int v24)] := hl
  refine W.eq (g2 := F0 m 5 ls []) rfl ?_
  refine lv_iload_n hx hb dX10_greatestOf_5 rfl (lv_at hl 2 rfl) ?_
  refine lv_aload_n hx hb dX10_greatestOf_6 rfl (lv_at hl 0 rfl) ?_
  refine va_alen (v := 200) hx hb hK hP 0 0 rfl rfl rfl dX10_greatestOf_7 ?_
  refine lv_icmp_ge (tgt := 29) hx hb dX10_greatestOf_8 (by decide) (fun c33 => ?_) (fun c33 => ?_)
  · have nc33 : 200 ≤ v24.toInt := pw_le c33 (by decide) rfl
    refine lv_iload_n hx hb dX10_greatestOf_29 rfl (lv_at hl 1 rfl) ?_
    exact W.iret (v := v23) hx hb hr (fun t ht hW => ⟨⟨v23, (), rfl, trivial, trivial⟩, hS.F ht⟩) hS.2.2 dX10_greatestOf_30
  · have nc33 : v24.toInt < 200 := pw_nle c33 (by decide) rfl
    refine lv_aload_n hx hb dX10_greatestOf_11 rfl (lv_at hl 0 rfl) ?_
    refine lv_iload_n hx hb dX10_greatestOf_12 rfl (lv_at hl 2 rfl) ?_
    refine va_zald hx hb hK hP 0 0 rfl rfl (vp_in_iff.mpr ⟨by omega, by omega⟩) dX10_greatestOf_13 ?_
    refine lv_topi (fun x34 ex34 => ?_)
    refine pw_join (fun (v36 : Int32) H locs ls => va_P D vwCl [(b, .inl (kZ, 200, .inl g_b))] H ∧ va_S (fun _ : Nat => False) s.heap H locs ∧ lv_has ls 3 [(0, .ref b), (1, .int v23), (2, .int v24)]) 0 0 (fun (v36 : Int32) ls => F0 m 22 ls [.int v36]) (fun v36 H locs ls hI => ?_) (fun hJ37 => ?_)
    ·
      obtain ⟨hP, hS, hl⟩ := hI
      have hP : va_P D vwCl [(b, .inl (kZ, 200, .inl g_b))] H := hP
      have hK : va_K D vwCl [(kZ, .boolean)] s := hK
      have hl : lv_has ls 3 [(0, .ref b), (1, .int v23), (2, .int v24)] := hl
      refine W.eq (g2 := F0 m 22 ls [.int v36]) rfl ?_
      refine lv_istore_n (lv' := [(1, .int v36), (0, .ref b), (2, .int v24)]) hx hb dX10_greatestOf_22 rfl hl (by decide) rfl (fun ls hl => ?_)
      obtain ⟨x38, ex38⟩ : ∃ y : Int32, y = v24 + 1 := ⟨_, rfl⟩
      have tx38 : x38.toInt = v24.toInt + 1 := pw_addX ex38 rfl (by decide) (by omega) (by omega)
      refine lv_iinc (v := x38) (lv' := [(2, .int x38), (1, .int v36), (0, .ref b)]) hx hb dX10_greatestOf_23 hl (k := 2) rfl (by rw [ex38]; rfl) (by decide) rfl (fun ls hl => ?_)
      refine lv_goto (tgt := 5) hx hb dX10_greatestOf_26 (by decide) ?_
      have hP9 : va_P D vwCl [(b, .inl (kZ, 200, .inl g_b))] H := hP.sub [0] rfl
      have hl9 : lv_has ls 3 [(0, .ref b), (1, .int v36), (2, .int x38)] := lv_sub hl [2, 1, 0] rfl
      refine W.widen (k := 0) (n := 0) (Nat.le_of_ble_eq_true rfl) (Nat.le_of_ble_eq_true rfl) ?_
      exact ih25 (v36, x38) _ _ _ (pw_up ex38 (by omega)) ⟨hP9, hS, hl9, (pw_upge ex38 (by omega) (by omega))⟩
    ·
      refine lv_if_eq (tgt := 21) hx hb dX10_greatestOf_14 (by decide) (fun c39 => ?_) (fun c39 => ?_)
      · have nc39 : x34.toInt = 0 := pw_eq c39 rfl (by decide)
        refine lv_iload_n hx hb dX10_greatestOf_21 rfl (lv_at hl 1 rfl) ?_
        have hP9 : va_P D vwCl [(b, .inl (kZ, 200, .inl g_b))] H := hP.sub [0] rfl
        have hl9 : lv_has ls 3 [(0, .ref b), (1, .int v23), (2, .int v24)] := lv_sub hl [0, 1, 2] rfl
        refine W.widen (k := 0) (n := 0) (Nat.le_of_ble_eq_true rfl) (Nat.le_of_ble_eq_true rfl) ?_
        exact hJ37 v23 _ _ _ ⟨hP9, hS, hl9⟩
      · have nc39 : x34.toInt ≠ 0 := pw_ne c39 rfl (by decide)
        refine lv_iload_n hx hb dX10_greatestOf_17 rfl (lv_at hl 2 rfl) ?_
        refine lv_goto (tgt := 22) hx hb dX10_greatestOf_18 (by decide) ?_
        have hP9 : va_P D vwCl [(b, .inl (kZ, 200, .inl g_b))] H := hP.sub [0] rfl
        have hl9 : lv_has ls 3 [(0, .ref b), (1, .int v23), (2, .int v24)] := lv_sub hl [0, 1, 2] rfl
        refine W.widen (k := 0) (n := 0) (Nat.le_of_ble_eq_true rfl) (Nat.le_of_ble_eq_true rfl) ?_
        exact hJ37 v24 _ _ _ ⟨hP9, hS, hl9⟩
def w_X10_told__2 : List Cond := .code yX10_told cX10_told 2 (some .int) :: ([.methodLink RX10 84 yX10_greatestOf, .static yX10_greatestOf, .initialized RX10, .code yX10_greatestOf cX10_greatestOf 3 (some .int), .constant RX10 61 (-1000000), .methodLink RX10 81 yX10_leastOf, .static yX10_leastOf, .code yX10_leastOf cX10_leastOf 3 (some .int), .methodLink RX10 77 yX10_manyIn, .static yX10_manyIn, .code yX10_manyIn cX10_manyIn 3 (some .int)])
set_option maxRecDepth 20000 in
theorem g_X10_told__2_X10_greatestOf__2 : GoodIn w_X10_told__2 (wsS RX10 84 yX10_greatestOf w_X10_greatestOf__2) := goodIn_r _ [1, 2, 3, 4, 5] rfl (by decide +kernel)
set_option maxRecDepth 20000 in
theorem g_X10_told__2_X10_leastOf__2 : GoodIn w_X10_told__2 (wsS RX10 81 yX10_leastOf w_X10_leastOf__2) := goodIn_r _ [6, 7, 3, 8, 5] rfl (by decide +kernel)
set_option maxRecDepth 20000 in
theorem g_X10_told__2_X10_manyIn__2 : GoodIn w_X10_told__2 (wsS RX10 77 yX10_manyIn w_X10_manyIn__2) := goodIn_r _ [9, 10, 3, 11] rfl (by decide +kernel)
set_option maxHeartbeats 4000000 in
set_option maxRecDepth 100000 in
theorem c_X10_told__2 (l : Launch) (D : va_G) (b : Nat) (i_w : Int32) (kZ : ClassId) (g_b : Nat → Int32) : Met l yX10_told w_X10_told__2 ({ frames := 1, cells := 0, slots := 0, locals := 22 }) (va_Pc [.ref b, .int i_w] (fun U => va_P D vwCl [(b, .inl (kZ, 200, .inl g_b))] U.heap ∧ va_K D vwCl [(kZ, .boolean)] U)) (va_Qi (fun (r : Int32) (_ : Unit) => True) (fun _ _ => True) (fun _ => False)) 0 0 (fun _ => False) := by
  refine Met.ofW (cc := cX10_told) (maxL := 2) (ret := (some .int)) (by decide) rfl ?_
  intro p e s m args below meth c s₁ B hml hv
  obtain ⟨rfl, hP, hK⟩ := hv
  have hx := B.exec
  have hb := B.bytes
  have hr := B.returns
  have hts := atoms_spec (ws := w_X10_told__2) B.pre
  have hown : s.vm.findClass RX10 = some m.cls := findClass_of_methodNamed B.named
  have hlocks := B.notSynchronized
  have hS : va_S (fun _ : Nat => False) s.heap s.heap [] := va_S.rf
  have hP : va_P D vwCl [(b, .inl (kZ, 200, .inl g_b))] s.heap := hP
  have hl := lv_entry ([.ref b, .int i_w]) (n := 2) (Nat.le_of_ble_eq_true rfl)
  rw [lg_entry_eq]
  generalize (lg_sl ([.ref b, .int i_w]) ++ List.replicate (2 - (lg_sl ([.ref b, .int i_w])).length) Slot.unset).toArray = ls at hl ⊢
  have hl : lv_has ls 2 [(0, .ref b), (1, .int i_w)] := hl
  obtain ⟨H, hHe⟩ : ∃ H : Heap, H = s.heap := ⟨_, rfl⟩
  rw [← hHe] at hP
  have hS : va_S (fun _ : Nat => False) s.heap H [] := by rw [hHe]; exact hS
  refine pw_heap hHe ?_
  refine lv_iload_n hx hb dX10_told_0 rfl (lv_at hl 1 rfl) ?_
  refine lv_if_ne (tgt := 11) hx hb dX10_told_1 (by decide) (fun c1 => ?_) (fun c1 => ?_)
  · have nc1 : i_w.toInt ≠ 0 := pw_ne c1 rfl (by decide)
    refine lv_iload_n hx hb dX10_told_11 rfl (lv_at hl 1 rfl) ?_
    refine lv_iconst (v := 1) hx hb dX10_told_12 (by decide) ?_
    refine lv_icmp_ne (tgt := 23) hx hb dX10_told_13 (by decide) (fun c2 => ?_) (fun c2 => ?_)
    · have nc2 : i_w.toInt ≠ 1 := pw_ne c2 rfl (by decide)
      refine lv_aload_n hx hb dX10_told_23 rfl (lv_at hl 0 rfl) ?_
      have hPc := hP.sub (ws' := [(b, .inl (kZ, 200, .inl g_b))]) [0] rfl
      have hKc := hK.sub (tys' := [(kZ, .boolean)]) [0] rfl
      refine va_calli (va_runS (As := [.ref b]) (rest := []) ⟨hx, hb, hml, hown, hts⟩ (c_X10_greatestOf__2 l D b kZ g_b) (cwS 1 hts g_X10_told__2_X10_greatestOf__2 rfl rfl rfl (by decide +kernel) ⟨Nat.le_of_ble_eq_true rfl, Nat.le_of_ble_eq_true rfl⟩) ⟨fun a U g mk q => by obtain ⟨q0, qP, qK⟩ := q; exact ⟨q0, qP, va_K.moved (u := U) (U := U.calling g mk a) (Vm.Alike.refl U.vm) qK⟩, fun U hU hW => ⟨rfl, by rw [hU]; exact hPc, va_K.moved hW.alike hKc⟩⟩ rfl rfl hl.1 rfl (lv_room (Nat.le_of_ble_eq_true rfl)) dX10_told_24 ⟨Nat.le_of_ble_eq_true rfl, Nat.le_of_ble_eq_true rfl⟩) hS (fun _ _ h => h.elim) (fun _ h => h.elim) (fun r3 u t H1 locs ht hvm hw hB hz1 hk1 hS => ?_)
      have hP := pw_keep hP (fun q hq => hk1 q hq (fun h => h))
      generalize H1 = H at hP hS ⊢
      refine W.widen (k := 0) (n := 0) (Nat.le_of_ble_eq_true rfl) (Nat.le_of_ble_eq_true rfl) ?_
      exact W.iret (v := r3) hx hb hr (fun t ht hW => ⟨⟨r3, (), rfl, trivial, trivial⟩, hS.F ht⟩) hS.2.2 dX10_told_27
    · have nc2 : i_w.toInt = 1 := pw_eq c2 rfl (by decide)
      refine lv_aload_n hx hb dX10_told_16 rfl (lv_at hl 0 rfl) ?_
      have hPc := hP.sub (ws' := [(b, .inl (kZ, 200, .inl g_b))]) [0] rfl
      have hKc := hK.sub (tys' := [(kZ, .boolean)]) [0] rfl
      refine va_calli (va_runS (As := [.ref b]) (rest := []) ⟨hx, hb, hml, hown, hts⟩ (c_X10_leastOf__2 l D b kZ g_b) (cwS 1 hts g_X10_told__2_X10_leastOf__2 rfl rfl rfl (by decide +kernel) ⟨Nat.le_of_ble_eq_true rfl, Nat.le_of_ble_eq_true rfl⟩) ⟨fun a U g mk q => by obtain ⟨q0, qP, qK⟩ := q; exact ⟨q0, qP, va_K.moved (u := U) (U := U.calling g mk a) (Vm.Alike.refl U.vm) qK⟩, fun U hU hW => ⟨rfl, by rw [hU]; exact hPc, va_K.moved hW.alike hKc⟩⟩ rfl rfl hl.1 rfl (lv_room (Nat.le_of_ble_eq_true rfl)) dX10_told_17 ⟨Nat.le_of_ble_eq_true rfl, Nat.le_of_ble_eq_true rfl⟩) hS (fun _ _ h => h.elim) (fun _ h => h.elim) (fun r4 u t H1 locs ht hvm hw hB hz1 hk1 hS => ?_)
      have hP := pw_keep hP (fun q hq => hk1 q hq (fun h => h))
      generalize H1 = H at hP hS ⊢
      refine W.widen (k := 0) (n := 0) (Nat.le_of_ble_eq_true rfl) (Nat.le_of_ble_eq_true rfl) ?_
      refine lv_goto (tgt := 27) hx hb dX10_told_20 (by decide) ?_
      exact W.iret (v := r4) hx hb hr (fun t ht hW => ⟨⟨r4, (), rfl, trivial, trivial⟩, hS.F ht⟩) hS.2.2 dX10_told_27
  · have nc1 : i_w.toInt = 0 := pw_eq c1 rfl (by decide)
    refine lv_aload_n hx hb dX10_told_4 rfl (lv_at hl 0 rfl) ?_
    have hPc := hP.sub (ws' := [(b, .inl (kZ, 200, .inl g_b))]) [0] rfl
    have hKc := hK.sub (tys' := [(kZ, .boolean)]) [0] rfl
    refine va_calli (va_runS (As := [.ref b]) (rest := []) ⟨hx, hb, hml, hown, hts⟩ (c_X10_manyIn__2 l D b kZ g_b) (cwS 1 hts g_X10_told__2_X10_manyIn__2 rfl rfl rfl (by decide +kernel) ⟨Nat.le_of_ble_eq_true rfl, Nat.le_of_ble_eq_true rfl⟩) ⟨fun a U g mk q => by obtain ⟨q0, qP, qK⟩ := q; exact ⟨q0, qP, va_K.moved (u := U) (U := U.calling g mk a) (Vm.Alike.refl U.vm) qK⟩, fun U hU hW => ⟨rfl, by rw [hU]; exact hPc, va_K.moved hW.alike hKc⟩⟩ rfl rfl hl.1 rfl (lv_room (Nat.le_of_ble_eq_true rfl)) dX10_told_5 ⟨Nat.le_of_ble_eq_true rfl, Nat.le_of_ble_eq_true rfl⟩) hS (fun _ _ h => h.elim) (fun _ h => h.elim) (fun r5 u t H1 locs ht hvm hw hB hz1 hk1 hS => ?_)
    have hP := pw_keep hP (fun q hq => hk1 q hq (fun h => h))
    generalize H1 = H at hP hS ⊢
    refine W.widen (k := 0) (n := 0) (Nat.le_of_ble_eq_true rfl) (Nat.le_of_ble_eq_true rfl) ?_
    refine lv_goto (tgt := 27) hx hb dX10_told_8 (by decide) ?_
    exact W.iret (v := r5) hx hb hr (fun t ht hW => ⟨⟨r5, (), rfl, trivial, trivial⟩, hS.F ht⟩) hS.2.2 dX10_told_27
def w_X10_comes : List Cond := .code yX10_comes cX10_comes 6 none :: ([.fieldLink RX10 7 "LineCitesModel" "now" "[I", .methodLink RX10 69 yX10_isMeant, .instanceMethod yX10_isMeant, .selects RX10 yX10_isMeant yX10_isMeant, .initialized RX10, .code yX10_isMeant cX10_isMeant 4 (some .boolean), .fieldLink RX10 29 "LineCitesModel" "low" "[I", .fieldLink RX10 32 "LineCitesModel" "high" "[I", .methodLink RX10 73 yX10_hasNumber, .instanceMethod yX10_hasNumber, .selects RX10 yX10_hasNumber yX10_hasNumber, .code yX10_hasNumber cX10_hasNumber 3 (some .boolean)] ++ wsX100)
set_option maxRecDepth 20000 in
theorem g_X10_comes_X10_isMeant : GoodIn w_X10_comes (wsV RX10 69 RX10 yX10_isMeant w_X10_isMeant) := goodIn_r _ [2, 3, 4, 5, 6, 7, 8, 13, 14, 15, 16, 17, 18, 19, 20, 21, 22, 23, 24, 25, 26, 27, 28, 29, 30, 31, 32, 33, 34, 35, 36, 37] rfl (by decide +kernel)
set_option maxRecDepth 20000 in
theorem g_X10_comes_X10_hasNumber : GoodIn w_X10_comes (wsV RX10 73 RX10 yX10_hasNumber w_X10_hasNumber) := goodIn_r _ [9, 10, 11, 5, 12, 7, 13, 14, 15, 16, 17, 18, 19, 20, 21, 22, 23, 24, 25, 26, 27, 28, 29, 30, 31, 32, 33, 34, 35, 36, 37] rfl (by decide +kernel)
set_option maxHeartbeats 4000000 in
set_option maxRecDepth 100000 in
theorem c_X10_comes (l : Launch) (D : va_G) (h0 : Nat) (i_a : Int32) (i_n : Int32) (i_b2 : Int32) (b : Nat) (m_now : Nat) (m_draft : Nat) (m_past : Nat) (j_acts : Int32) (m_images : Nat) (m_kept : Nat) (m_tape : Nat) (j_taped : Int32) (j_at : Int32) (j_start : Int32) (j_token : Int32) (j_value : Int32) (j_fault : Int32) (j_place : Int32) (j_latest : Int32) (m_low : Nat) (m_high : Nat) (m_first : Nat) (m_second : Nat) (m_lines : Nat) (m_others : Nat) (j_shiftFirst : Int32) (j_shiftMany : Int32) (j_shiftLow : Int32) (j_shiftHigh : Int32) (kI : ClassId) (g_now : Nat → Int32) (g_low : Nat → Int32) (g_high : Nat → Int32) (kZ : ClassId) (g_b : Nat → Int32) (sz : Nat) (h0i_a : 0 ≤ i_a.toInt) (h1i_a : i_a.toInt ≤ 4) (h0i_b2 : 0 ≤ i_b2.toInt) (h1i_b2 : i_b2.toInt ≤ 4) (hg_now : gV g_now) (hg_low : bP g_low) (hg_high : bP g_high) : Met l yX10_comes w_X10_comes ({ frames := 1, cells := 0, slots := 0, locals := 23 }) (va_Pc [.ref h0, .int i_a, .int i_n, .int i_b2, .ref b] (fun U => U.heap.size = sz ∧ va_P D vwCl [(h0, .inr (10, [.ref m_now, .ref m_draft, .ref m_past, .int j_acts, .ref m_images, .ref m_kept, .ref m_tape, .int j_taped, .int j_at, .int j_start, .int j_token, .int j_value, .int j_fault, .int j_place, .int j_latest, .ref m_low, .ref m_high, .ref m_first, .ref m_second, .ref m_lines, .ref m_others, .int j_shiftFirst, .int j_shiftMany, .int j_shiftLow, .int j_shiftHigh])), (m_now, .inl (kI, 192, .inl g_now)), (m_low, .inl (kI, 1000, .inl g_low)), (m_high, .inl (kI, 1000, .inl g_high)), (b, .inl (kZ, 1000, .inl g_b))] U.heap ∧ va_K D vwCl [(kI, .int), (kZ, .boolean)] U ∧ va_D (fun _ => True) [(h0, .inr (10, [.ref m_now, .ref m_draft, .ref m_past, .int j_acts, .ref m_images, .ref m_kept, .ref m_tape, .int j_taped, .int j_at, .int j_start, .int j_token, .int j_value, .int j_fault, .int j_place, .int j_latest, .ref m_low, .ref m_high, .ref m_first, .ref m_second, .ref m_lines, .ref m_others, .int j_shiftFirst, .int j_shiftMany, .int j_shiftLow, .int j_shiftHigh])), (m_now, .inl (kI, 192, .inl g_now)), (m_low, .inl (kI, 1000, .inl g_low)), (m_high, .inl (kI, 1000, .inl g_high)), (b, .inl (kZ, 1000, .inl g_b))])) (va_Qv (fun (_ : Unit) => True) (fun (_ : Unit) t => ∃ (n_b : Nat → Int32), va_P D vwCl [(h0, .inr (10, [.ref m_now, .ref m_draft, .ref m_past, .int j_acts, .ref m_images, .ref m_kept, .ref m_tape, .int j_taped, .int j_at, .int j_start, .int j_token, .int j_value, .int j_fault, .int j_place, .int j_latest, .ref m_low, .ref m_high, .ref m_first, .ref m_second, .ref m_lines, .ref m_others, .int j_shiftFirst, .int j_shiftMany, .int j_shiftLow, .int j_shiftHigh])), (m_now, .inl (kI, 192, .inl g_now)), (m_low, .inl (kI, 1000, .inl g_low)), (m_high, .inl (kI, 1000, .inl g_high)), (b, .inl (kZ, 1000, .inl n_b))] t.heap ∧ va_K D vwCl [(kI, .int), (kZ, .boolean)] t ∧ va_D (va_A [(h0, .inr (10, [.ref m_now, .ref m_draft, .ref m_past, .int j_acts, .ref m_images, .ref m_kept, .ref m_tape, .int j_taped, .int j_at, .int j_start, .int j_token, .int j_value, .int j_fault, .int j_place, .int j_latest, .ref m_low, .ref m_high, .ref m_first, .ref m_second, .ref m_lines, .ref m_others, .int j_shiftFirst, .int j_shiftMany, .int j_shiftLow, .int j_shiftHigh])), (m_now, .inl (kI, 192, .inl g_now)), (m_low, .inl (kI, 1000, .inl g_low)), (m_high, .inl (kI, 1000, .inl g_high)), (b, .inl (kZ, 1000, .inl g_b))] sz) [(h0, .inr (10, [.ref m_now, .ref m_draft, .ref m_past, .int j_acts, .ref m_images, .ref m_kept, .ref m_tape, .int j_taped, .int j_at, .int j_start, .int j_token, .int j_value, .int j_fault, .int j_place, .int j_latest, .ref m_low, .ref m_high, .ref m_first, .ref m_second, .ref m_lines, .ref m_others, .int j_shiftFirst, .int j_shiftMany, .int j_shiftLow, .int j_shiftHigh])), (m_now, .inl (kI, 192, .inl g_now)), (m_low, .inl (kI, 1000, .inl g_low)), (m_high, .inl (kI, 1000, .inl g_high)), (b, .inl (kZ, 1000, .inl n_b))]) (va_A [(h0, .inr (10, [.ref m_now, .ref m_draft, .ref m_past, .int j_acts, .ref m_images, .ref m_kept, .ref m_tape, .int j_taped, .int j_at, .int j_start, .int j_token, .int j_value, .int j_fault, .int j_place, .int j_latest, .ref m_low, .ref m_high, .ref m_first, .ref m_second, .ref m_lines, .ref m_others, .int j_shiftFirst, .int j_shiftMany, .int j_shiftLow, .int j_shiftHigh])), (m_now, .inl (kI, 192, .inl g_now)), (m_low, .inl (kI, 1000, .inl g_low)), (m_high, .inl (kI, 1000, .inl g_high)), (b, .inl (kZ, 1000, .inl g_b))] sz)) 0 0 (va_A [(h0, .inr (10, [.ref m_now, .ref m_draft, .ref m_past, .int j_acts, .ref m_images, .ref m_kept, .ref m_tape, .int j_taped, .int j_at, .int j_start, .int j_token, .int j_value, .int j_fault, .int j_place, .int j_latest, .ref m_low, .ref m_high, .ref m_first, .ref m_second, .ref m_lines, .ref m_others, .int j_shiftFirst, .int j_shiftMany, .int j_shiftLow, .int j_shiftHigh])), (m_now, .inl (kI, 192, .inl g_now)), (m_low, .inl (kI, 1000, .inl g_low)), (m_high, .inl (kI, 1000, .inl g_high)), (b, .inl (kZ, 1000, .inl g_b))] sz) := by
  refine Met.ofW (cc := cX10_comes) (maxL := 6) (ret := none) (by decide) rfl ?_
  intro p e s m args below meth c s₁ B hml hv
  obtain ⟨rfl, hsz, hP, hK, hD0⟩ := hv
  have hx := B.exec
  have hb := B.bytes
  have hr := B.returns
  have hts := atoms_spec (ws := w_X10_comes) B.pre
  have hown : s.vm.findClass RX10 = some m.cls := findClass_of_methodNamed B.named
  have hlocks := B.notSynchronized
  subst hsz
  have hD := hD0.self (sz := s.heap.size)
  generalize hAe : va_A [(h0, .inr (10, [.ref m_now, .ref m_draft, .ref m_past, .int j_acts, .ref m_images, .ref m_kept, .ref m_tape, .int j_taped, .int j_at, .int j_start, .int j_token, .int j_value, .int j_fault, .int j_place, .int j_latest, .ref m_low, .ref m_high, .ref m_first, .ref m_second, .ref m_lines, .ref m_others, .int j_shiftFirst, .int j_shiftMany, .int j_shiftLow, .int j_shiftHigh])), (m_now, .inl (kI, 192, .inl g_now)), (m_low, .inl (kI, 1000, .inl g_low)), (m_high, .inl (kI, 1000, .inl g_high)), (b, .inl (kZ, 1000, .inl g_b))] s.heap.size = A at hD ⊢
  have hA : ∀ q : Nat, s.heap.size ≤ q → A q := fun q h => by rw [← hAe]; exact Or.inr h
  have hS : va_S A s.heap s.heap [] := va_S.rf
  have hP : va_P D vwCl [(h0, .inr (10, [.ref m_now, .ref m_draft, .ref m_past, .int j_acts, .ref m_images, .ref m_kept, .ref m_tape, .int j_taped, .int j_at, .int j_start, .int j_token, .int j_value, .int j_fault, .int j_place, .int j_latest, .ref m_low, .ref m_high, .ref m_first, .ref m_second, .ref m_lines, .ref m_others, .int j_shiftFirst, .int j_shiftMany, .int j_shiftLow, .int j_shiftHigh])), (m_now, .inl (kI, 192, .inl g_now)), (m_low, .inl (kI, 1000, .inl g_low)), (m_high, .inl (kI, 1000, .inl g_high)), (b, .inl (kZ, 1000, .inl g_b))] s.heap := hP
  have hl := lv_entry ([.ref h0, .int i_a, .int i_n, .int i_b2, .ref b]) (n := 6) (Nat.le_of_ble_eq_true rfl)
  rw [lg_entry_eq]
  generalize (lg_sl ([.ref h0, .int i_a, .int i_n, .int i_b2, .ref b]) ++ List.replicate (6 - (lg_sl ([.ref h0, .int i_a, .int i_n, .int i_b2, .ref b])).length) Slot.unset).toArray = ls at hl ⊢
  have hl : lv_has ls 6 [(0, .ref h0), (1, .int i_a), (2, .int i_n), (3, .int i_b2), (4, .ref b)] := hl
  obtain ⟨H, hHe⟩ : ∃ H : Heap, H = s.heap := ⟨_, rfl⟩
  rw [← hHe] at hP
  have hS : va_S A s.heap H [] := by rw [hHe]; exact hS
  refine pw_heap hHe ?_
  refine lv_iconst (v := 0) hx hb dX10_comes_0 (by decide) ?_
  refine lv_istore (lv' := [(5, .int 0), (0, .ref h0), (1, .int i_a), (2, .int i_n), (3, .int i_b2), (4, .ref b)]) hx hb dX10_comes_1 hl (by decide) rfl (fun ls hl => ?_)
  have hl9 : lv_has ls 6 [(0, .ref h0), (1, .int i_a), (2, .int i_n), (3, .int i_b2), (4, .ref b), (5, .int 0)] := lv_sub hl [1, 2, 3, 4, 5, 0] rfl
  refine pw_loop (fun (zz : Int32 × (Nat → Int32)) H locs ls => match zz with | (v58, f59) => va_P D vwCl [(h0, .inr (10, [.ref m_now, .ref m_draft, .ref m_past, .int j_acts, .ref m_images, .ref m_kept, .ref m_tape, .int j_taped, .int j_at, .int j_start, .int j_token, .int j_value, .int j_fault, .int j_place, .int j_latest, .ref m_low, .ref m_high, .ref m_first, .ref m_second, .ref m_lines, .ref m_others, .int j_shiftFirst, .int j_shiftMany, .int j_shiftLow, .int j_shiftHigh])), (m_now, .inl (kI, 192, .inl g_now)), (m_low, .inl (kI, 1000, .inl g_low)), (m_high, .inl (kI, 1000, .inl g_high)), (b, .inl (kZ, 1000, .inl f59))] H ∧ va_D A [(h0, .inr (10, [.ref m_now, .ref m_draft, .ref m_past, .int j_acts, .ref m_images, .ref m_kept, .ref m_tape, .int j_taped, .int j_at, .int j_start, .int j_token, .int j_value, .int j_fault, .int j_place, .int j_latest, .ref m_low, .ref m_high, .ref m_first, .ref m_second, .ref m_lines, .ref m_others, .int j_shiftFirst, .int j_shiftMany, .int j_shiftLow, .int j_shiftHigh])), (m_now, .inl (kI, 192, .inl g_now)), (m_low, .inl (kI, 1000, .inl g_low)), (m_high, .inl (kI, 1000, .inl g_high)), (b, .inl (kZ, 1000, .inl f59))] ∧ va_S A s.heap H locs ∧ lv_has ls 6 [(0, .ref h0), (1, .int i_a), (2, .int i_n), (3, .int i_b2), (4, .ref b), (5, .int v58)] ∧ 0 ≤ v58.toInt) (fun (zz : Int32 × (Nat → Int32))  => match zz with | (v58, f59) => (2147483648 - v58.toInt).toNat) 0 0 (fun (zz : Int32 × (Nat → Int32)) ls => match zz with | (v58, f59) => F0 m 3 ls []) (fun zz H locs ls ih60 hI => ?_) (0, g_b) _ _ _ ⟨hP, hD, hS, hl9, (by decide)⟩
  obtain ⟨v58, f59⟩ := zz
  obtain ⟨hP, hD, hS, hl, bv58⟩ := hI
  have bv58 : 0 ≤ v58.toInt := bv58
  have hP : va_P D vwCl [(h0, .inr (10, [.ref m_now, .ref m_draft, .ref m_past, .int j_acts, .ref m_images, .ref m_kept, .ref m_tape, .int j_taped, .int j_at, .int j_start, .int j_token, .int j_value, .int j_fault, .int j_place, .int j_latest, .ref m_low, .ref m_high, .ref m_first, .ref m_second, .ref m_lines, .ref m_others, .int j_shiftFirst, .int j_shiftMany, .int j_shiftLow, .int j_shiftHigh])), (m_now, .inl (kI, 192, .inl g_now)), (m_low, .inl (kI, 1000, .inl g_low)), (m_high, .inl (kI, 1000, .inl g_high)), (b, .inl (kZ, 1000, .inl f59))] H := hP
  have hD : va_D A [(h0, .inr (10, [.ref m_now, .ref m_draft, .ref m_past, .int j_acts, .ref m_images, .ref m_kept, .ref m_tape, .int j_taped, .int j_at, .int j_start, .int j_token, .int j_value, .int j_fault, .int j_place, .int j_latest, .ref m_low, .ref m_high, .ref m_first, .ref m_second, .ref m_lines, .ref m_others, .int j_shiftFirst, .int j_shiftMany, .int j_shiftLow, .int j_shiftHigh])), (m_now, .inl (kI, 192, .inl g_now)), (m_low, .inl (kI, 1000, .inl g_low)), (m_high, .inl (kI, 1000, .inl g_high)), (b, .inl (kZ, 1000, .inl f59))] := hD
  have hK : va_K D vwCl [(kI, .int), (kZ, .boolean)] s := hK
  have hl : lv_has ls 6 [(0, .ref h0), (1, .int i_a), (2, .int i_n), (3, .int i_b2), (4, .ref b), (5, .int v58)] := hl
  refine W.eq (g2 := F0 m 3 ls []) rfl ?_
  refine lv_iload hx hb dX10_comes_3 (lv_at hl 5 rfl) ?_
  refine lv_aload_n hx hb dX10_comes_5 rfl (lv_at hl 0 rfl) ?_
  refine va_get (D := D) (ci := 10) (v := .ref m_now) (C := RX10) (T := TX10) (N := 25) hx hb hts (fun _ h => List.mem_cons_of_mem _ (List.mem_append_right _ h)) hown hK hP 0 rfl rfl 0 (by decide) (hts (.fieldLink RX10 7 "LineCitesModel" "now" "[I") (List.mem_of_getElem? (i := 1) rfl)) (fun _ h9 => h9) rfl dX10_comes_6 ?_
  refine lv_iconst (v := 0) hx hb dX10_comes_9 (by decide) ?_
  refine va_iald hx hb hK hP 1 0 rfl rfl (vp_in_iff.mpr (by decide)) dX10_comes_10 ?_
  refine lv_topi (fun x61 ex61 => ?_)
  have nx61 : 0 ≤ x61.toInt ∧ x61.toInt ≤ 200 := gV_0 hg_now ex61
  have zx61 := gV_00 ex61
  refine lv_icmp_ge (tgt := 75) hx hb dX10_comes_11 (by decide) (fun c62 => ?_) (fun c62 => ?_)
  · have nc62 : x61.toInt ≤ v58.toInt := pw_le c62 rfl rfl
    have mc62v58 := pw_max v58
    have mc62x61 := pw_max x61
    have hP9 := hP.sub (ws' := [(h0, .inr (10, [.ref m_now, .ref m_draft, .ref m_past, .int j_acts, .ref m_images, .ref m_kept, .ref m_tape, .int j_taped, .int j_at, .int j_start, .int j_token, .int j_value, .int j_fault, .int j_place, .int j_latest, .ref m_low, .ref m_high, .ref m_first, .ref m_second, .ref m_lines, .ref m_others, .int j_shiftFirst, .int j_shiftMany, .int j_shiftLow, .int j_shiftHigh])), (m_now, .inl (kI, 192, .inl g_now)), (m_low, .inl (kI, 1000, .inl g_low)), (m_high, .inl (kI, 1000, .inl g_high)), (b, .inl (kZ, 1000, .inl f59))]) [0, 1, 2, 3, 4] rfl
    have hD9 := hD.sub (ws' := [(h0, .inr (10, [.ref m_now, .ref m_draft, .ref m_past, .int j_acts, .ref m_images, .ref m_kept, .ref m_tape, .int j_taped, .int j_at, .int j_start, .int j_token, .int j_value, .int j_fault, .int j_place, .int j_latest, .ref m_low, .ref m_high, .ref m_first, .ref m_second, .ref m_lines, .ref m_others, .int j_shiftFirst, .int j_shiftMany, .int j_shiftLow, .int j_shiftHigh])), (m_now, .inl (kI, 192, .inl g_now)), (m_low, .inl (kI, 1000, .inl g_low)), (m_high, .inl (kI, 1000, .inl g_high)), (b, .inl (kZ, 1000, .inl f59))]) [0, 1, 2, 3, 4] (by decide) rfl
    have hK9 := hK.sub (tys' := [(kI, .int), (kZ, .boolean)]) [0, 1] rfl
    refine W.widen (k := 0) (n := 0) (Nat.le_of_ble_eq_true rfl) (Nat.le_of_ble_eq_true rfl) ?_
    exact W.vret hx hb hr (fun t ht hW => ⟨⟨(), rfl, trivial, f59, by rw [ht]; exact hP9, va_K.moved hW.alike hK9, hD9⟩, hS.F ht⟩) hS.2.2 dX10_comes_75
  · have nc62 : v58.toInt < x61.toInt := pw_nle c62 rfl rfl
    have mc62v58 := pw_max v58
    have mc62x61 := pw_max x61
    refine lv_aload_n hx hb dX10_comes_14 rfl (lv_at hl 0 rfl) ?_
    refine lv_iload_n hx hb dX10_comes_15 rfl (lv_at hl 1 rfl) ?_
    refine lv_iload_n hx hb dX10_comes_16 rfl (lv_at hl 2 rfl) ?_
    refine lv_iload hx hb dX10_comes_17 (lv_at hl 5 rfl) ?_
    have hPc := hP.sub (ws' := [(h0, .inr (10, [.ref m_now, .ref m_draft, .ref m_past, .int j_acts, .ref m_images, .ref m_kept, .ref m_tape, .int j_taped, .int j_at, .int j_start, .int j_token, .int j_value, .int j_fault, .int j_place, .int j_latest, .ref m_low, .ref m_high, .ref m_first, .ref m_second, .ref m_lines, .ref m_others, .int j_shiftFirst, .int j_shiftMany, .int j_shiftLow, .int j_shiftHigh])), (m_low, .inl (kI, 1000, .inl g_low)), (m_high, .inl (kI, 1000, .inl g_high))]) [0, 2, 3] rfl
    have hKc := hK.sub (tys' := [(kI, .int)]) [0] rfl
    refine va_calli (va_runV (As := [.int i_a, .int i_n, .int v58]) (rest := []) ⟨hx, hb, hml, hown, hts⟩ (c_X10_isMeant l D h0 i_a i_n v58 m_now m_draft m_past j_acts m_images m_kept m_tape j_taped j_at j_start j_token j_value j_fault j_place j_latest m_low m_high m_first m_second m_lines m_others j_shiftFirst j_shiftMany j_shiftLow j_shiftHigh kI g_low g_high (by first | decide | omega) (by first | decide | omega) (by first | decide | omega) (by first | decide | omega) hg_low hg_high) (cwV 3 hts g_X10_comes_X10_isMeant rfl rfl rfl (by decide +kernel) ⟨Nat.le_of_ble_eq_true rfl, Nat.le_of_ble_eq_true rfl⟩) ⟨fun a U g mk q => by obtain ⟨q0, qP, qK⟩ := q; exact ⟨q0, qP, va_K.moved (u := U) (U := U.calling g mk a) (Vm.Alike.refl U.vm) qK⟩, va_recv hKc hPc (ci := 10) (q0 := 0) rfl rfl, fun U hU hW => ⟨rfl, by rw [hU]; exact hPc, va_K.moved hW.alike hKc⟩⟩ rfl rfl hl.1 rfl (lv_room (Nat.le_of_ble_eq_true rfl)) dX10_comes_19 ⟨Nat.le_of_ble_eq_true rfl, Nat.le_of_ble_eq_true rfl⟩) hS (fun _ _ h => h.elim) (fun _ h => h.elim) (fun r63 u t H1 locs ht hvm hw hB hz1 hk1 hS => ?_)
    have hP := pw_keep hP (fun q hq => hk1 q hq (fun h => h))
    generalize H1 = H at hP hS ⊢
    refine W.widen (k := 0) (n := 0) (Nat.le_of_ble_eq_true rfl) (Nat.le_of_ble_eq_true rfl) ?_
    have bor63 := hw.1
    have zor63 := pw_boolI bor63
    refine pw_join (fun (f75 : Nat → Int32) H locs ls => va_P D vwCl [(h0, .inr (10, [.ref m_now, .ref m_draft, .ref m_past, .int j_acts, .ref m_images, .ref m_kept, .ref m_tape, .int j_taped, .int j_at, .int j_start, .int j_token, .int j_value, .int j_fault, .int j_place, .int j_latest, .ref m_low, .ref m_high, .ref m_first, .ref m_second, .ref m_lines, .ref m_others, .int j_shiftFirst, .int j_shiftMany, .int j_shiftLow, .int j_shiftHigh])), (m_now, .inl (kI, 192, .inl g_now)), (m_low, .inl (kI, 1000, .inl g_low)), (m_high, .inl (kI, 1000, .inl g_high)), (b, .inl (kZ, 1000, .inl f75))] H ∧ va_D A [(h0, .inr (10, [.ref m_now, .ref m_draft, .ref m_past, .int j_acts, .ref m_images, .ref m_kept, .ref m_tape, .int j_taped, .int j_at, .int j_start, .int j_token, .int j_value, .int j_fault, .int j_place, .int j_latest, .ref m_low, .ref m_high, .ref m_first, .ref m_second, .ref m_lines, .ref m_others, .int j_shiftFirst, .int j_shiftMany, .int j_shiftLow, .int j_shiftHigh])), (m_now, .inl (kI, 192, .inl g_now)), (m_low, .inl (kI, 1000, .inl g_low)), (m_high, .inl (kI, 1000, .inl g_high)), (b, .inl (kZ, 1000, .inl f75))] ∧ va_S A s.heap H locs ∧ lv_has ls 6 [(0, .ref h0), (1, .int i_a), (2, .int i_n), (3, .int i_b2), (4, .ref b), (5, .int v58)]) 0 0 (fun (f75 : Nat → Int32) ls => F0 m 69 ls []) (fun f75 H locs ls hI => ?_) (fun hJ76 => ?_)
    ·
      obtain ⟨hP, hD, hS, hl⟩ := hI
      have hP : va_P D vwCl [(h0, .inr (10, [.ref m_now, .ref m_draft, .ref m_past, .int j_acts, .ref m_images, .ref m_kept, .ref m_tape, .int j_taped, .int j_at, .int j_start, .int j_token, .int j_value, .int j_fault, .int j_place, .int j_latest, .ref m_low, .ref m_high, .ref m_first, .ref m_second, .ref m_lines, .ref m_others, .int j_shiftFirst, .int j_shiftMany, .int j_shiftLow, .int j_shiftHigh])), (m_now, .inl (kI, 192, .inl g_now)), (m_low, .inl (kI, 1000, .inl g_low)), (m_high, .inl (kI, 1000, .inl g_high)), (b, .inl (kZ, 1000, .inl f75))] H := hP
      have hD : va_D A [(h0, .inr (10, [.ref m_now, .ref m_draft, .ref m_past, .int j_acts, .ref m_images, .ref m_kept, .ref m_tape, .int j_taped, .int j_at, .int j_start, .int j_token, .int j_value, .int j_fault, .int j_place, .int j_latest, .ref m_low, .ref m_high, .ref m_first, .ref m_second, .ref m_lines, .ref m_others, .int j_shiftFirst, .int j_shiftMany, .int j_shiftLow, .int j_shiftHigh])), (m_now, .inl (kI, 192, .inl g_now)), (m_low, .inl (kI, 1000, .inl g_low)), (m_high, .inl (kI, 1000, .inl g_high)), (b, .inl (kZ, 1000, .inl f75))] := hD
      have hK : va_K D vwCl [(kI, .int), (kZ, .boolean)] s := hK
      have hl : lv_has ls 6 [(0, .ref h0), (1, .int i_a), (2, .int i_n), (3, .int i_b2), (4, .ref b), (5, .int v58)] := hl
      refine W.eq (g2 := F0 m 69 ls []) rfl ?_
      obtain ⟨x77, ex77⟩ : ∃ y : Int32, y = v58 + 1 := ⟨_, rfl⟩
      have tx77 : x77.toInt = v58.toInt + 1 := pw_addX ex77 rfl (by decide) (by omega) (by omega)
      refine lv_iinc (v := x77) (lv' := [(5, .int x77), (0, .ref h0), (1, .int i_a), (2, .int i_n), (3, .int i_b2), (4, .ref b)]) hx hb dX10_comes_69 hl (k := 5) rfl (by rw [ex77]; rfl) (by decide) rfl (fun ls hl => ?_)
      refine lv_goto (tgt := 3) hx hb dX10_comes_72 (by decide) ?_
      have hP9 : va_P D vwCl [(h0, .inr (10, [.ref m_now, .ref m_draft, .ref m_past, .int j_acts, .ref m_images, .ref m_kept, .ref m_tape, .int j_taped, .int j_at, .int j_start, .int j_token, .int j_value, .int j_fault, .int j_place, .int j_latest, .ref m_low, .ref m_high, .ref m_first, .ref m_second, .ref m_lines, .ref m_others, .int j_shiftFirst, .int j_shiftMany, .int j_shiftLow, .int j_shiftHigh])), (m_now, .inl (kI, 192, .inl g_now)), (m_low, .inl (kI, 1000, .inl g_low)), (m_high, .inl (kI, 1000, .inl g_high)), (b, .inl (kZ, 1000, .inl f75))] H := hP.sub [0, 1, 2, 3, 4] rfl
      have hD9 : va_D A [(h0, .inr (10, [.ref m_now, .ref m_draft, .ref m_past, .int j_acts, .ref m_images, .ref m_kept, .ref m_tape, .int j_taped, .int j_at, .int j_start, .int j_token, .int j_value, .int j_fault, .int j_place, .int j_latest, .ref m_low, .ref m_high, .ref m_first, .ref m_second, .ref m_lines, .ref m_others, .int j_shiftFirst, .int j_shiftMany, .int j_shiftLow, .int j_shiftHigh])), (m_now, .inl (kI, 192, .inl g_now)), (m_low, .inl (kI, 1000, .inl g_low)), (m_high, .inl (kI, 1000, .inl g_high)), (b, .inl (kZ, 1000, .inl f75))] := hD.sub [0, 1, 2, 3, 4] (by decide) rfl
      have hl9 : lv_has ls 6 [(0, .ref h0), (1, .int i_a), (2, .int i_n), (3, .int i_b2), (4, .ref b), (5, .int x77)] := lv_sub hl [1, 2, 3, 4, 5, 0] rfl
      refine W.widen (k := 0) (n := 0) (Nat.le_of_ble_eq_true rfl) (Nat.le_of_ble_eq_true rfl) ?_
      exact ih60 (x77, f75) _ _ _ (pw_up ex77 (by omega)) ⟨hP9, hD9, hS, hl9, (pw_upge ex77 (by omega) (by omega))⟩
    ·
      refine lv_if_eq (tgt := 69) hx hb dX10_comes_22 (by decide) (fun c78 => ?_) (fun c78 => ?_)
      · have nc78 : r63.toInt = 0 := pw_eq c78 rfl (by decide)
        have hP9 : va_P D vwCl [(h0, .inr (10, [.ref m_now, .ref m_draft, .ref m_past, .int j_acts, .ref m_images, .ref m_kept, .ref m_tape, .int j_taped, .int j_at, .int j_start, .int j_token, .int j_value, .int j_fault, .int j_place, .int j_latest, .ref m_low, .ref m_high, .ref m_first, .ref m_second, .ref m_lines, .ref m_others, .int j_shiftFirst, .int j_shiftMany, .int j_shiftLow, .int j_shiftHigh])), (m_now, .inl (kI, 192, .inl g_now)), (m_low, .inl (kI, 1000, .inl g_low)), (m_high, .inl (kI, 1000, .inl g_high)), (b, .inl (kZ, 1000, .inl f59))] H := hP.sub [0, 1, 2, 3, 4] rfl
        have hD9 : va_D A [(h0, .inr (10, [.ref m_now, .ref m_draft, .ref m_past, .int j_acts, .ref m_images, .ref m_kept, .ref m_tape, .int j_taped, .int j_at, .int j_start, .int j_token, .int j_value, .int j_fault, .int j_place, .int j_latest, .ref m_low, .ref m_high, .ref m_first, .ref m_second, .ref m_lines, .ref m_others, .int j_shiftFirst, .int j_shiftMany, .int j_shiftLow, .int j_shiftHigh])), (m_now, .inl (kI, 192, .inl g_now)), (m_low, .inl (kI, 1000, .inl g_low)), (m_high, .inl (kI, 1000, .inl g_high)), (b, .inl (kZ, 1000, .inl f59))] := hD.sub [0, 1, 2, 3, 4] (by decide) rfl
        have hl9 : lv_has ls 6 [(0, .ref h0), (1, .int i_a), (2, .int i_n), (3, .int i_b2), (4, .ref b), (5, .int v58)] := lv_sub hl [0, 1, 2, 3, 4, 5] rfl
        refine W.widen (k := 0) (n := 0) (Nat.le_of_ble_eq_true rfl) (Nat.le_of_ble_eq_true rfl) ?_
        exact hJ76 f59 _ _ _ ⟨hP9, hD9, hS, hl9⟩
      · have nc78 : r63.toInt ≠ 0 := pw_ne c78 rfl (by decide)
        refine lv_aload_n hx hb dX10_comes_25 rfl (lv_at hl 0 rfl) ?_
        refine lv_iload_n hx hb dX10_comes_26 rfl (lv_at hl 3 rfl) ?_
        refine lv_iload hx hb dX10_comes_27 (lv_at hl 5 rfl) ?_
        have hPc := hP.sub (ws' := [(h0, .inr (10, [.ref m_now, .ref m_draft, .ref m_past, .int j_acts, .ref m_images, .ref m_kept, .ref m_tape, .int j_taped, .int j_at, .int j_start, .int j_token, .int j_value, .int j_fault, .int j_place, .int j_latest, .ref m_low, .ref m_high, .ref m_first, .ref m_second, .ref m_lines, .ref m_others, .int j_shiftFirst, .int j_shiftMany, .int j_shiftLow, .int j_shiftHigh])), (m_low, .inl (kI, 1000, .inl g_low))]) [0, 2] rfl
        have hKc := hK.sub (tys' := [(kI, .int)]) [0] rfl
        refine va_calli (va_runV (As := [.int i_b2, .int v58]) (rest := []) ⟨hx, hb, hml, hown, hts⟩ (c_X10_hasNumber l D h0 i_b2 v58 m_now m_draft m_past j_acts m_images m_kept m_tape j_taped j_at j_start j_token j_value j_fault j_place j_latest m_low m_high m_first m_second m_lines m_others j_shiftFirst j_shiftMany j_shiftLow j_shiftHigh kI g_low (by first | decide | omega) (by first | decide | omega) (by first | decide | omega) (by first | decide | omega) hg_low) (cwV 2 hts g_X10_comes_X10_hasNumber rfl rfl rfl (by decide +kernel) ⟨Nat.le_of_ble_eq_true rfl, Nat.le_of_ble_eq_true rfl⟩) ⟨fun a U g mk q => by obtain ⟨q0, qP, qK⟩ := q; exact ⟨q0, qP, va_K.moved (u := U) (U := U.calling g mk a) (Vm.Alike.refl U.vm) qK⟩, va_recv hKc hPc (ci := 10) (q0 := 0) rfl rfl, fun U hU hW => ⟨rfl, by rw [hU]; exact hPc, va_K.moved hW.alike hKc⟩⟩ rfl rfl hl.1 rfl (lv_room (Nat.le_of_ble_eq_true rfl)) dX10_comes_29 ⟨Nat.le_of_ble_eq_true rfl, Nat.le_of_ble_eq_true rfl⟩) hS (fun _ _ h => h.elim) (fun _ h => h.elim) (fun r79 u t H1 locs ht hvm hw hB hz1 hk1 hS => ?_)
        have hP := pw_keep hP (fun q hq => hk1 q hq (fun h => h))
        generalize H1 = H at hP hS ⊢
        refine W.widen (k := 0) (n := 0) (Nat.le_of_ble_eq_true rfl) (Nat.le_of_ble_eq_true rfl) ?_
        have bor79 := hw.1
        have zor79 := pw_boolI bor79
        refine lv_if_eq (tgt := 69) hx hb dX10_comes_32 (by decide) (fun c80 => ?_) (fun c80 => ?_)
        · have nc80 : r79.toInt = 0 := pw_eq c80 rfl (by decide)
          have hP9 : va_P D vwCl [(h0, .inr (10, [.ref m_now, .ref m_draft, .ref m_past, .int j_acts, .ref m_images, .ref m_kept, .ref m_tape, .int j_taped, .int j_at, .int j_start, .int j_token, .int j_value, .int j_fault, .int j_place, .int j_latest, .ref m_low, .ref m_high, .ref m_first, .ref m_second, .ref m_lines, .ref m_others, .int j_shiftFirst, .int j_shiftMany, .int j_shiftLow, .int j_shiftHigh])), (m_now, .inl (kI, 192, .inl g_now)), (m_low, .inl (kI, 1000, .inl g_low)), (m_high, .inl (kI, 1000, .inl g_high)), (b, .inl (kZ, 1000, .inl f59))] H := hP.sub [0, 1, 2, 3, 4] rfl
          have hD9 : va_D A [(h0, .inr (10, [.ref m_now, .ref m_draft, .ref m_past, .int j_acts, .ref m_images, .ref m_kept, .ref m_tape, .int j_taped, .int j_at, .int j_start, .int j_token, .int j_value, .int j_fault, .int j_place, .int j_latest, .ref m_low, .ref m_high, .ref m_first, .ref m_second, .ref m_lines, .ref m_others, .int j_shiftFirst, .int j_shiftMany, .int j_shiftLow, .int j_shiftHigh])), (m_now, .inl (kI, 192, .inl g_now)), (m_low, .inl (kI, 1000, .inl g_low)), (m_high, .inl (kI, 1000, .inl g_high)), (b, .inl (kZ, 1000, .inl f59))] := hD.sub [0, 1, 2, 3, 4] (by decide) rfl
          have hl9 : lv_has ls 6 [(0, .ref h0), (1, .int i_a), (2, .int i_n), (3, .int i_b2), (4, .ref b), (5, .int v58)] := lv_sub hl [0, 1, 2, 3, 4, 5] rfl
          refine W.widen (k := 0) (n := 0) (Nat.le_of_ble_eq_true rfl) (Nat.le_of_ble_eq_true rfl) ?_
          exact hJ76 f59 _ _ _ ⟨hP9, hD9, hS, hl9⟩
        · have nc80 : r79.toInt ≠ 0 := pw_ne c80 rfl (by decide)
          refine lv_aload hx hb dX10_comes_35 (lv_at hl 4 rfl) ?_
          refine lv_aload_n hx hb dX10_comes_37 rfl (lv_at hl 0 rfl) ?_
          refine va_get (D := D) (ci := 10) (v := .ref m_low) (C := RX10) (T := TX10) (N := 25) hx hb hts (fun _ h => List.mem_cons_of_mem _ (List.mem_append_right _ h)) hown hK hP 0 rfl rfl 15 (by decide) (hts (.fieldLink RX10 29 "LineCitesModel" "low" "[I") (List.mem_of_getElem? (i := 7) rfl)) (fun _ h9 => h9) rfl dX10_comes_38 ?_
          refine lv_sipush (v := 200) hx hb dX10_comes_41 (by decide) ?_
          refine lv_iload_n hx hb dX10_comes_44 rfl (lv_at hl 3 rfl) ?_
          refine lv_imul hx hb dX10_comes_45 ?_
          refine lv_topi (fun x81 ex81 => ?_)
          have tx81 : x81.toInt = 200 * i_b2.toInt := pw_mulX ex81 (by decide) rfl (by omega) (by omega)
          refine lv_iload hx hb dX10_comes_46 (lv_at hl 5 rfl) ?_
          refine lv_iadd hx hb dX10_comes_48 ?_
          refine lv_topi (fun x82 ex82 => ?_)
          have tx82 : x82.toInt = x81.toInt + v58.toInt := pw_addX ex82 rfl rfl (by omega) (by omega)
          refine va_iald hx hb hK hP 2 0 rfl rfl (vp_in_iff.mpr ⟨by omega, by omega⟩) dX10_comes_49 ?_
          refine lv_topi (fun x83 ex83 => ?_)
          have nx83 : 0 ≤ x83.toInt ∧ x83.toInt ≤ 999 := bP_at hg_low ex83
          refine lv_iconst (v := 1) hx hb dX10_comes_50 (by decide) ?_
          refine va_zast hx hb hK hP hD hS 4 1 rfl rfl (vp_in_iff.mpr ⟨by omega, by omega⟩) dX10_comes_51 (fun H locs hP hD hS => ?_)
          obtain ⟨g84, eg84⟩ : ∃ g : Nat → Int32, g = upd f59 (x83 : Int32).toNatClampNeg (vp_nar .boolean 1) := ⟨_, rfl⟩
          have hP : va_P D vwCl [(h0, .inr (10, [.ref m_now, .ref m_draft, .ref m_past, .int j_acts, .ref m_images, .ref m_kept, .ref m_tape, .int j_taped, .int j_at, .int j_start, .int j_token, .int j_value, .int j_fault, .int j_place, .int j_latest, .ref m_low, .ref m_high, .ref m_first, .ref m_second, .ref m_lines, .ref m_others, .int j_shiftFirst, .int j_shiftMany, .int j_shiftLow, .int j_shiftHigh])), (m_now, .inl (kI, 192, .inl g_now)), (m_low, .inl (kI, 1000, .inl g_low)), (m_high, .inl (kI, 1000, .inl g_high)), (b, .inl (kZ, 1000, .inl (upd f59 (x83 : Int32).toNatClampNeg (vp_nar .boolean 1))))] H := hP
          have hD : va_D A [(h0, .inr (10, [.ref m_now, .ref m_draft, .ref m_past, .int j_acts, .ref m_images, .ref m_kept, .ref m_tape, .int j_taped, .int j_at, .int j_start, .int j_token, .int j_value, .int j_fault, .int j_place, .int j_latest, .ref m_low, .ref m_high, .ref m_first, .ref m_second, .ref m_lines, .ref m_others, .int j_shiftFirst, .int j_shiftMany, .int j_shiftLow, .int j_shiftHigh])), (m_now, .inl (kI, 192, .inl g_now)), (m_low, .inl (kI, 1000, .inl g_low)), (m_high, .inl (kI, 1000, .inl g_high)), (b, .inl (kZ, 1000, .inl (upd f59 (x83 : Int32).toNatClampNeg (vp_nar .boolean 1))))] := hD
          have hK : va_K D vwCl [(kI, .int), (kZ, .boolean)] s := hK
          rw [← eg84] at hP hD
          refine lv_aload hx hb dX10_comes_52 (lv_at hl 4 rfl) ?_
          refine lv_aload_n hx hb dX10_comes_54 rfl (lv_at hl 0 rfl) ?_
          refine va_get (D := D) (ci := 10) (v := .ref m_high) (C := RX10) (T := TX10) (N := 25) hx hb hts (fun _ h => List.mem_cons_of_mem _ (List.mem_append_right _ h)) hown hK hP 0 rfl rfl 16 (by decide) (hts (.fieldLink RX10 32 "LineCitesModel" "high" "[I") (List.mem_of_getElem? (i := 8) rfl)) (fun _ h9 => h9) rfl dX10_comes_55 ?_
          refine lv_sipush (v := 200) hx hb dX10_comes_58 (by decide) ?_
          refine lv_iload_n hx hb dX10_comes_61 rfl (lv_at hl 3 rfl) ?_
          refine lv_imul hx hb dX10_comes_62 ?_
          refine lv_topi (fun x85 ex85 => ?_)
          have tx85 : x85.toInt = 200 * i_b2.toInt := pw_mulX ex85 (by decide) rfl (by omega) (by omega)
          refine lv_iload hx hb dX10_comes_63 (lv_at hl 5 rfl) ?_
          refine lv_iadd hx hb dX10_comes_65 ?_
          refine lv_topi (fun x86 ex86 => ?_)
          have tx86 : x86.toInt = x85.toInt + v58.toInt := pw_addX ex86 rfl rfl (by omega) (by omega)
          refine va_iald hx hb hK hP 3 0 rfl rfl (vp_in_iff.mpr ⟨by omega, by omega⟩) dX10_comes_66 ?_
          refine lv_topi (fun x87 ex87 => ?_)
          have nx87 : 0 ≤ x87.toInt ∧ x87.toInt ≤ 999 := bP_at hg_high ex87
          refine lv_iconst (v := 1) hx hb dX10_comes_67 (by decide) ?_
          refine va_zast hx hb hK hP hD hS 4 1 rfl rfl (vp_in_iff.mpr ⟨by omega, by omega⟩) dX10_comes_68 (fun H locs hP hD hS => ?_)
          obtain ⟨g88, eg88⟩ : ∃ g : Nat → Int32, g = upd g84 (x87 : Int32).toNatClampNeg (vp_nar .boolean 1) := ⟨_, rfl⟩
          have hP : va_P D vwCl [(h0, .inr (10, [.ref m_now, .ref m_draft, .ref m_past, .int j_acts, .ref m_images, .ref m_kept, .ref m_tape, .int j_taped, .int j_at, .int j_start, .int j_token, .int j_value, .int j_fault, .int j_place, .int j_latest, .ref m_low, .ref m_high, .ref m_first, .ref m_second, .ref m_lines, .ref m_others, .int j_shiftFirst, .int j_shiftMany, .int j_shiftLow, .int j_shiftHigh])), (m_now, .inl (kI, 192, .inl g_now)), (m_low, .inl (kI, 1000, .inl g_low)), (m_high, .inl (kI, 1000, .inl g_high)), (b, .inl (kZ, 1000, .inl (upd g84 (x87 : Int32).toNatClampNeg (vp_nar .boolean 1))))] H := hP
          have hD : va_D A [(h0, .inr (10, [.ref m_now, .ref m_draft, .ref m_past, .int j_acts, .ref m_images, .ref m_kept, .ref m_tape, .int j_taped, .int j_at, .int j_start, .int j_token, .int j_value, .int j_fault, .int j_place, .int j_latest, .ref m_low, .ref m_high, .ref m_first, .ref m_second, .ref m_lines, .ref m_others, .int j_shiftFirst, .int j_shiftMany, .int j_shiftLow, .int j_shiftHigh])), (m_now, .inl (kI, 192, .inl g_now)), (m_low, .inl (kI, 1000, .inl g_low)), (m_high, .inl (kI, 1000, .inl g_high)), (b, .inl (kZ, 1000, .inl (upd g84 (x87 : Int32).toNatClampNeg (vp_nar .boolean 1))))] := hD
          have hK : va_K D vwCl [(kI, .int), (kZ, .boolean)] s := hK
          rw [← eg88] at hP hD
          have hP9 : va_P D vwCl [(h0, .inr (10, [.ref m_now, .ref m_draft, .ref m_past, .int j_acts, .ref m_images, .ref m_kept, .ref m_tape, .int j_taped, .int j_at, .int j_start, .int j_token, .int j_value, .int j_fault, .int j_place, .int j_latest, .ref m_low, .ref m_high, .ref m_first, .ref m_second, .ref m_lines, .ref m_others, .int j_shiftFirst, .int j_shiftMany, .int j_shiftLow, .int j_shiftHigh])), (m_now, .inl (kI, 192, .inl g_now)), (m_low, .inl (kI, 1000, .inl g_low)), (m_high, .inl (kI, 1000, .inl g_high)), (b, .inl (kZ, 1000, .inl g88))] H := hP.sub [0, 1, 2, 3, 4] rfl
          have hD9 : va_D A [(h0, .inr (10, [.ref m_now, .ref m_draft, .ref m_past, .int j_acts, .ref m_images, .ref m_kept, .ref m_tape, .int j_taped, .int j_at, .int j_start, .int j_token, .int j_value, .int j_fault, .int j_place, .int j_latest, .ref m_low, .ref m_high, .ref m_first, .ref m_second, .ref m_lines, .ref m_others, .int j_shiftFirst, .int j_shiftMany, .int j_shiftLow, .int j_shiftHigh])), (m_now, .inl (kI, 192, .inl g_now)), (m_low, .inl (kI, 1000, .inl g_low)), (m_high, .inl (kI, 1000, .inl g_high)), (b, .inl (kZ, 1000, .inl g88))] := hD.sub [0, 1, 2, 3, 4] (by decide) rfl
          have hl9 : lv_has ls 6 [(0, .ref h0), (1, .int i_a), (2, .int i_n), (3, .int i_b2), (4, .ref b), (5, .int v58)] := lv_sub hl [0, 1, 2, 3, 4, 5] rfl
          refine W.widen (k := 0) (n := 0) (Nat.le_of_ble_eq_true rfl) (Nat.le_of_ble_eq_true rfl) ?_
          exact hJ76 g88 _ _ _ ⟨hP9, hD9, hS, hl9⟩
def w_X10_goes : List Cond := .code yX10_goes cX10_goes 6 none :: ([.fieldLink RX10 38 "LineCitesModel" "second" "[Z", .methodLink RX10 87 yX10_clears, .static yX10_clears, .initialized RX10, .code yX10_clears cX10_clears 2 none, .methodLink RX10 91 yX10_comes, .instanceMethod yX10_comes, .selects RX10 yX10_comes yX10_comes, .code yX10_comes cX10_comes 6 none, .fieldLink RX10 7 "LineCitesModel" "now" "[I", .methodLink RX10 69 yX10_isMeant, .instanceMethod yX10_isMeant, .selects RX10 yX10_isMeant yX10_isMeant, .code yX10_isMeant cX10_isMeant 4 (some .boolean), .fieldLink RX10 29 "LineCitesModel" "low" "[I", .fieldLink RX10 32 "LineCitesModel" "high" "[I", .methodLink RX10 73 yX10_hasNumber, .instanceMethod yX10_hasNumber, .selects RX10 yX10_hasNumber yX10_hasNumber, .code yX10_hasNumber cX10_hasNumber 3 (some .boolean), .fieldLink RX10 35 "LineCitesModel" "first" "[Z"] ++ wsX100)
set_option maxRecDepth 20000 in
theorem g_X10_goes_X10_clears : GoodIn w_X10_goes (wsS RX10 87 yX10_clears w_X10_clears) := goodIn_r _ [2, 3, 4, 5] rfl (by decide +kernel)
set_option maxRecDepth 20000 in
theorem g_X10_goes_X10_comes : GoodIn w_X10_goes (wsV RX10 91 RX10 yX10_comes w_X10_comes) := goodIn_r _ [6, 7, 8, 4, 9, 10, 11, 12, 13, 4, 14, 15, 16, 17, 18, 19, 20, 22, 23, 24, 25, 26, 27, 28, 29, 30, 31, 32, 33, 34, 35, 36, 37, 38, 39, 40, 41, 42, 43, 44, 45, 46] rfl (by decide +kernel)
set_option maxHeartbeats 4000000 in
set_option maxRecDepth 100000 in
theorem c_X10_goes (l : Launch) (D : va_G) (h0 : Nat) (i_a : Int32) (i_n : Int32) (i_c : Int32) (i_b2 : Int32) (m_now : Nat) (m_draft : Nat) (m_past : Nat) (j_acts : Int32) (m_images : Nat) (m_kept : Nat) (m_tape : Nat) (j_taped : Int32) (j_at : Int32) (j_start : Int32) (j_token : Int32) (j_value : Int32) (j_fault : Int32) (j_place : Int32) (j_latest : Int32) (m_low : Nat) (m_high : Nat) (m_first : Nat) (m_second : Nat) (m_lines : Nat) (m_others : Nat) (j_shiftFirst : Int32) (j_shiftMany : Int32) (j_shiftLow : Int32) (j_shiftHigh : Int32) (kI : ClassId) (g_now : Nat → Int32) (g_low : Nat → Int32) (g_high : Nat → Int32) (kZ : ClassId) (g_first : Nat → Int32) (g_second : Nat → Int32) (sz : Nat) (h0i_a : 0 ≤ i_a.toInt) (h1i_a : i_a.toInt ≤ 4) (h0i_c : 0 ≤ i_c.toInt) (h1i_c : i_c.toInt ≤ 4) (h0i_b2 : 0 ≤ i_b2.toInt) (h1i_b2 : i_b2.toInt ≤ 4) (hg_now : gV g_now) (hg_low : bP g_low) (hg_high : bP g_high) : Met l yX10_goes w_X10_goes ({ frames := 2, cells := 0, slots := 0, locals := 48 }) (va_Pc [.ref h0, .int i_a, .int i_n, .int i_c, .int i_b2] (fun U => U.heap.size = sz ∧ va_P D vwCl [(h0, .inr (10, [.ref m_now, .ref m_draft, .ref m_past, .int j_acts, .ref m_images, .ref m_kept, .ref m_tape, .int j_taped, .int j_at, .int j_start, .int j_token, .int j_value, .int j_fault, .int j_place, .int j_latest, .ref m_low, .ref m_high, .ref m_first, .ref m_second, .ref m_lines, .ref m_others, .int j_shiftFirst, .int j_shiftMany, .int j_shiftLow, .int j_shiftHigh])), (m_now, .inl (kI, 192, .inl g_now)), (m_low, .inl (kI, 1000, .inl g_low)), (m_high, .inl (kI, 1000, .inl g_high)), (m_first, .inl (kZ, 1000, .inl g_first)), (m_second, .inl (kZ, 1000, .inl g_second))] U.heap ∧ va_K D vwCl [(kI, .int), (kZ, .boolean)] U ∧ va_D (fun _ => True) [(h0, .inr (10, [.ref m_now, .ref m_draft, .ref m_past, .int j_acts, .ref m_images, .ref m_kept, .ref m_tape, .int j_taped, .int j_at, .int j_start, .int j_token, .int j_value, .int j_fault, .int j_place, .int j_latest, .ref m_low, .ref m_high, .ref m_first, .ref m_second, .ref m_lines, .ref m_others, .int j_shiftFirst, .int j_shiftMany, .int j_shiftLow, .int j_shiftHigh])), (m_now, .inl (kI, 192, .inl g_now)), (m_low, .inl (kI, 1000, .inl g_low)), (m_high, .inl (kI, 1000, .inl g_high)), (m_first, .inl (kZ, 1000, .inl g_first)), (m_second, .inl (kZ, 1000, .inl g_second))])) (va_Qv (fun (_ : Unit) => True) (fun (_ : Unit) t => ∃ (n_first : Nat → Int32) (n_second : Nat → Int32), va_P D vwCl [(h0, .inr (10, [.ref m_now, .ref m_draft, .ref m_past, .int j_acts, .ref m_images, .ref m_kept, .ref m_tape, .int j_taped, .int j_at, .int j_start, .int j_token, .int j_value, .int j_fault, .int j_place, .int j_latest, .ref m_low, .ref m_high, .ref m_first, .ref m_second, .ref m_lines, .ref m_others, .int j_shiftFirst, .int j_shiftMany, .int j_shiftLow, .int j_shiftHigh])), (m_now, .inl (kI, 192, .inl g_now)), (m_low, .inl (kI, 1000, .inl g_low)), (m_high, .inl (kI, 1000, .inl g_high)), (m_first, .inl (kZ, 1000, .inl n_first)), (m_second, .inl (kZ, 1000, .inl n_second))] t.heap ∧ va_K D vwCl [(kI, .int), (kZ, .boolean)] t ∧ va_D (va_A [(h0, .inr (10, [.ref m_now, .ref m_draft, .ref m_past, .int j_acts, .ref m_images, .ref m_kept, .ref m_tape, .int j_taped, .int j_at, .int j_start, .int j_token, .int j_value, .int j_fault, .int j_place, .int j_latest, .ref m_low, .ref m_high, .ref m_first, .ref m_second, .ref m_lines, .ref m_others, .int j_shiftFirst, .int j_shiftMany, .int j_shiftLow, .int j_shiftHigh])), (m_now, .inl (kI, 192, .inl g_now)), (m_low, .inl (kI, 1000, .inl g_low)), (m_high, .inl (kI, 1000, .inl g_high)), (m_first, .inl (kZ, 1000, .inl g_first)), (m_second, .inl (kZ, 1000, .inl g_second))] sz) [(h0, .inr (10, [.ref m_now, .ref m_draft, .ref m_past, .int j_acts, .ref m_images, .ref m_kept, .ref m_tape, .int j_taped, .int j_at, .int j_start, .int j_token, .int j_value, .int j_fault, .int j_place, .int j_latest, .ref m_low, .ref m_high, .ref m_first, .ref m_second, .ref m_lines, .ref m_others, .int j_shiftFirst, .int j_shiftMany, .int j_shiftLow, .int j_shiftHigh])), (m_now, .inl (kI, 192, .inl g_now)), (m_low, .inl (kI, 1000, .inl g_low)), (m_high, .inl (kI, 1000, .inl g_high)), (m_first, .inl (kZ, 1000, .inl n_first)), (m_second, .inl (kZ, 1000, .inl n_second))]) (va_A [(h0, .inr (10, [.ref m_now, .ref m_draft, .ref m_past, .int j_acts, .ref m_images, .ref m_kept, .ref m_tape, .int j_taped, .int j_at, .int j_start, .int j_token, .int j_value, .int j_fault, .int j_place, .int j_latest, .ref m_low, .ref m_high, .ref m_first, .ref m_second, .ref m_lines, .ref m_others, .int j_shiftFirst, .int j_shiftMany, .int j_shiftLow, .int j_shiftHigh])), (m_now, .inl (kI, 192, .inl g_now)), (m_low, .inl (kI, 1000, .inl g_low)), (m_high, .inl (kI, 1000, .inl g_high)), (m_first, .inl (kZ, 1000, .inl g_first)), (m_second, .inl (kZ, 1000, .inl g_second))] sz)) 0 0 (va_A [(h0, .inr (10, [.ref m_now, .ref m_draft, .ref m_past, .int j_acts, .ref m_images, .ref m_kept, .ref m_tape, .int j_taped, .int j_at, .int j_start, .int j_token, .int j_value, .int j_fault, .int j_place, .int j_latest, .ref m_low, .ref m_high, .ref m_first, .ref m_second, .ref m_lines, .ref m_others, .int j_shiftFirst, .int j_shiftMany, .int j_shiftLow, .int j_shiftHigh])), (m_now, .inl (kI, 192, .inl g_now)), (m_low, .inl (kI, 1000, .inl g_low)), (m_high, .inl (kI, 1000, .inl g_high)), (m_first, .inl (kZ, 1000, .inl g_first)), (m_second, .inl (kZ, 1000, .inl g_second))] sz) := by
  refine Met.ofW (cc := cX10_goes) (maxL := 6) (ret := none) (by decide) rfl ?_
  intro p e s m args below meth c s₁ B hml hv
  obtain ⟨rfl, hsz, hP, hK, hD0⟩ := hv
  have hx := B.exec
  have hb := B.bytes
  have hr := B.returns
  have hts := atoms_spec (ws := w_X10_goes) B.pre
  have hown : s.vm.findClass RX10 = some m.cls := findClass_of_methodNamed B.named
  have hlocks := B.notSynchronized
  subst hsz
  have hD := hD0.self (sz := s.heap.size)
  generalize hAe : va_A [(h0, .inr (10, [.ref m_now, .ref m_draft, .ref m_past, .int j_acts, .ref m_images, .ref m_kept, .ref m_tape, .int j_taped, .int j_at, .int j_start, .int j_token, .int j_value, .int j_fault, .int j_place, .int j_latest, .ref m_low, .ref m_high, .ref m_first, .ref m_second, .ref m_lines, .ref m_others, .int j_shiftFirst, .int j_shiftMany, .int j_shiftLow, .int j_shiftHigh])), (m_now, .inl (kI, 192, .inl g_now)), (m_low, .inl (kI, 1000, .inl g_low)), (m_high, .inl (kI, 1000, .inl g_high)), (m_first, .inl (kZ, 1000, .inl g_first)), (m_second, .inl (kZ, 1000, .inl g_second))] s.heap.size = A at hD ⊢
  have hA : ∀ q : Nat, s.heap.size ≤ q → A q := fun q h => by rw [← hAe]; exact Or.inr h
  have hS : va_S A s.heap s.heap [] := va_S.rf
  have hP : va_P D vwCl [(h0, .inr (10, [.ref m_now, .ref m_draft, .ref m_past, .int j_acts, .ref m_images, .ref m_kept, .ref m_tape, .int j_taped, .int j_at, .int j_start, .int j_token, .int j_value, .int j_fault, .int j_place, .int j_latest, .ref m_low, .ref m_high, .ref m_first, .ref m_second, .ref m_lines, .ref m_others, .int j_shiftFirst, .int j_shiftMany, .int j_shiftLow, .int j_shiftHigh])), (m_now, .inl (kI, 192, .inl g_now)), (m_low, .inl (kI, 1000, .inl g_low)), (m_high, .inl (kI, 1000, .inl g_high)), (m_first, .inl (kZ, 1000, .inl g_first)), (m_second, .inl (kZ, 1000, .inl g_second))] s.heap := hP
  have hl := lv_entry ([.ref h0, .int i_a, .int i_n, .int i_c, .int i_b2]) (n := 6) (Nat.le_of_ble_eq_true rfl)
  rw [lg_entry_eq]
  generalize (lg_sl ([.ref h0, .int i_a, .int i_n, .int i_c, .int i_b2]) ++ List.replicate (6 - (lg_sl ([.ref h0, .int i_a, .int i_n, .int i_c, .int i_b2])).length) Slot.unset).toArray = ls at hl ⊢
  have hl : lv_has ls 6 [(0, .ref h0), (1, .int i_a), (2, .int i_n), (3, .int i_c), (4, .int i_b2)] := hl
  obtain ⟨H, hHe⟩ : ∃ H : Heap, H = s.heap := ⟨_, rfl⟩
  rw [← hHe] at hP
  have hS : va_S A s.heap H [] := by rw [hHe]; exact hS
  refine pw_heap hHe ?_
  refine lv_aload_n hx hb dX10_goes_0 rfl (lv_at hl 0 rfl) ?_
  refine va_get (D := D) (ci := 10) (v := .ref m_second) (C := RX10) (T := TX10) (N := 25) hx hb hts (fun _ h => List.mem_cons_of_mem _ (List.mem_append_right _ h)) hown hK hP 0 rfl rfl 18 (by decide) (hts (.fieldLink RX10 38 "LineCitesModel" "second" "[Z") (List.mem_of_getElem? (i := 1) rfl)) (fun _ h9 => h9) rfl dX10_goes_1 ?_
  have hPc := hP.sub (ws' := [(m_second, .inl (kZ, 1000, .inl g_second))]) [5] rfl
  have hKc := hK.sub (tys' := [(kZ, .boolean)]) [1] rfl
  have hDc := hD.sub (ws' := [(m_second, .inl (kZ, 1000, .inl g_second))]) [5] (by decide) rfl
  have hFc := va_free (wc := [(m_second, .inl (kZ, 1000, .inl g_second))]) hD hS hA [5] rfl
  refine va_callv (va_runS (As := [.ref m_second]) (rest := []) ⟨hx, hb, hml, hown, hts⟩ (c_X10_clears l D m_second kZ g_second H.size) (cwS 1 hts g_X10_goes_X10_clears rfl rfl rfl (by decide +kernel) ⟨Nat.le_of_ble_eq_true rfl, Nat.le_of_ble_eq_true rfl⟩) ⟨fun a U g mk q => by obtain ⟨q0, q1, qP, qK, qD⟩ := q; exact ⟨q0, q1, qP, va_K.moved (u := U) (U := U.calling g mk a) (Vm.Alike.refl U.vm) qK, qD⟩, fun U hU hW => ⟨rfl, by rw [hU], by rw [hU]; exact hPc, va_K.moved hW.alike hKc, hDc.weaken (fun _ _ _ _ => trivial)⟩⟩ rfl rfl hl.1 rfl (lv_room (Nat.le_of_ble_eq_true rfl)) dX10_goes_4 ⟨Nat.le_of_ble_eq_true rfl, Nat.le_of_ble_eq_true rfl⟩) hS (fun q _ h => hFc q h) hFc (fun u t H1 locs ht hvm hw hB hz1 hk1 hS => ?_)
  obtain ⟨y2, hP1, hK1, hD1⟩ := hB
  rw [ht] at hP1
  have hK1 := va_K.moved hvm.symm hK1
  obtain ⟨hP, hD⟩ := va_join (wr := [(h0, .inr (10, [.ref m_now, .ref m_draft, .ref m_past, .int j_acts, .ref m_images, .ref m_kept, .ref m_tape, .int j_taped, .int j_at, .int j_start, .int j_token, .int j_value, .int j_fault, .int j_place, .int j_latest, .ref m_low, .ref m_high, .ref m_first, .ref m_second, .ref m_lines, .ref m_others, .int j_shiftFirst, .int j_shiftMany, .int j_shiftLow, .int j_shiftHigh])), (m_now, .inl (kI, 192, .inl g_now)), (m_low, .inl (kI, 1000, .inl g_low)), (m_high, .inl (kI, 1000, .inl g_high)), (m_first, .inl (kZ, 1000, .inl g_first))]) (w1 := [(m_second, .inl (kZ, 1000, .inl y2))]) hP hD [5] [0, 1, 2, 3, 4] rfl rfl (by decide) (by decide) hk1 hFc hP1 hD1
  have hK := (hK.sub (tys' := [(kI, .int), (kZ, .boolean)]) [0, 1] rfl).app hK1
  generalize H1 = H at hP hS ⊢
  have hP : va_P D vwCl [(h0, .inr (10, [.ref m_now, .ref m_draft, .ref m_past, .int j_acts, .ref m_images, .ref m_kept, .ref m_tape, .int j_taped, .int j_at, .int j_start, .int j_token, .int j_value, .int j_fault, .int j_place, .int j_latest, .ref m_low, .ref m_high, .ref m_first, .ref m_second, .ref m_lines, .ref m_others, .int j_shiftFirst, .int j_shiftMany, .int j_shiftLow, .int j_shiftHigh])), (m_now, .inl (kI, 192, .inl g_now)), (m_low, .inl (kI, 1000, .inl g_low)), (m_high, .inl (kI, 1000, .inl g_high)), (m_first, .inl (kZ, 1000, .inl g_first)), (m_second, .inl (kZ, 1000, .inl y2))] H := hP
  have hD : va_D A [(h0, .inr (10, [.ref m_now, .ref m_draft, .ref m_past, .int j_acts, .ref m_images, .ref m_kept, .ref m_tape, .int j_taped, .int j_at, .int j_start, .int j_token, .int j_value, .int j_fault, .int j_place, .int j_latest, .ref m_low, .ref m_high, .ref m_first, .ref m_second, .ref m_lines, .ref m_others, .int j_shiftFirst, .int j_shiftMany, .int j_shiftLow, .int j_shiftHigh])), (m_now, .inl (kI, 192, .inl g_now)), (m_low, .inl (kI, 1000, .inl g_low)), (m_high, .inl (kI, 1000, .inl g_high)), (m_first, .inl (kZ, 1000, .inl g_first)), (m_second, .inl (kZ, 1000, .inl y2))] := hD
  have hK : va_K D vwCl [(kI, .int), (kZ, .boolean), (kZ, .boolean)] s := hK
  refine W.widen (k := 0) (n := 0) (Nat.le_of_ble_eq_true rfl) (Nat.le_of_ble_eq_true rfl) ?_
  refine lv_aload_n hx hb dX10_goes_7 rfl (lv_at hl 0 rfl) ?_
  refine lv_iload_n hx hb dX10_goes_8 rfl (lv_at hl 1 rfl) ?_
  refine lv_iload_n hx hb dX10_goes_9 rfl (lv_at hl 2 rfl) ?_
  refine lv_iload_n hx hb dX10_goes_10 rfl (lv_at hl 3 rfl) ?_
  refine lv_aload_n hx hb dX10_goes_11 rfl (lv_at hl 0 rfl) ?_
  refine va_get (D := D) (ci := 10) (v := .ref m_second) (C := RX10) (T := TX10) (N := 25) hx hb hts (fun _ h => List.mem_cons_of_mem _ (List.mem_append_right _ h)) hown hK hP 0 rfl rfl 18 (by decide) (hts (.fieldLink RX10 38 "LineCitesModel" "second" "[Z") (List.mem_of_getElem? (i := 1) rfl)) (fun _ h9 => h9) rfl dX10_goes_12 ?_
  have hPc := hP.sub (ws' := [(h0, .inr (10, [.ref m_now, .ref m_draft, .ref m_past, .int j_acts, .ref m_images, .ref m_kept, .ref m_tape, .int j_taped, .int j_at, .int j_start, .int j_token, .int j_value, .int j_fault, .int j_place, .int j_latest, .ref m_low, .ref m_high, .ref m_first, .ref m_second, .ref m_lines, .ref m_others, .int j_shiftFirst, .int j_shiftMany, .int j_shiftLow, .int j_shiftHigh])), (m_now, .inl (kI, 192, .inl g_now)), (m_low, .inl (kI, 1000, .inl g_low)), (m_high, .inl (kI, 1000, .inl g_high)), (m_second, .inl (kZ, 1000, .inl y2))]) [0, 1, 2, 3, 5] rfl
  have hKc := hK.sub (tys' := [(kI, .int), (kZ, .boolean)]) [0, 1] rfl
  have hDc := hD.sub (ws' := [(h0, .inr (10, [.ref m_now, .ref m_draft, .ref m_past, .int j_acts, .ref m_images, .ref m_kept, .ref m_tape, .int j_taped, .int j_at, .int j_start, .int j_token, .int j_value, .int j_fault, .int j_place, .int j_latest, .ref m_low, .ref m_high, .ref m_first, .ref m_second, .ref m_lines, .ref m_others, .int j_shiftFirst, .int j_shiftMany, .int j_shiftLow, .int j_shiftHigh])), (m_now, .inl (kI, 192, .inl g_now)), (m_low, .inl (kI, 1000, .inl g_low)), (m_high, .inl (kI, 1000, .inl g_high)), (m_second, .inl (kZ, 1000, .inl y2))]) [0, 1, 2, 3, 5] (by decide) rfl
  have hFc := va_free (wc := [(h0, .inr (10, [.ref m_now, .ref m_draft, .ref m_past, .int j_acts, .ref m_images, .ref m_kept, .ref m_tape, .int j_taped, .int j_at, .int j_start, .int j_token, .int j_value, .int j_fault, .int j_place, .int j_latest, .ref m_low, .ref m_high, .ref m_first, .ref m_second, .ref m_lines, .ref m_others, .int j_shiftFirst, .int j_shiftMany, .int j_shiftLow, .int j_shiftHigh])), (m_now, .inl (kI, 192, .inl g_now)), (m_low, .inl (kI, 1000, .inl g_low)), (m_high, .inl (kI, 1000, .inl g_high)), (m_second, .inl (kZ, 1000, .inl y2))]) hD hS hA [0, 1, 2, 3, 5] rfl
  refine va_callv (va_runV (As := [.int i_a, .int i_n, .int i_c, .ref m_second]) (rest := []) ⟨hx, hb, hml, hown, hts⟩ (c_X10_comes l D h0 i_a i_n i_c m_second m_now m_draft m_past j_acts m_images m_kept m_tape j_taped j_at j_start j_token j_value j_fault j_place j_latest m_low m_high m_first m_second m_lines m_others j_shiftFirst j_shiftMany j_shiftLow j_shiftHigh kI g_now g_low g_high kZ y2 H.size (by first | decide | omega) (by first | decide | omega) (by first | decide | omega) (by first | decide | omega) hg_now hg_low hg_high) (cwV 4 hts g_X10_goes_X10_comes rfl rfl rfl (by decide +kernel) ⟨Nat.le_of_ble_eq_true rfl, Nat.le_of_ble_eq_true rfl⟩) ⟨fun a U g mk q => by obtain ⟨q0, q1, qP, qK, qD⟩ := q; exact ⟨q0, q1, qP, va_K.moved (u := U) (U := U.calling g mk a) (Vm.Alike.refl U.vm) qK, qD⟩, va_recv hKc hPc (ci := 10) (q0 := 0) rfl rfl, fun U hU hW => ⟨rfl, by rw [hU], by rw [hU]; exact hPc, va_K.moved hW.alike hKc, hDc.weaken (fun _ _ _ _ => trivial)⟩⟩ rfl rfl hl.1 rfl (lv_room (Nat.le_of_ble_eq_true rfl)) dX10_goes_15 ⟨Nat.le_of_ble_eq_true rfl, Nat.le_of_ble_eq_true rfl⟩) hS (fun q _ h => hFc q h) hFc (fun u t H1 locs ht hvm hw hB hz1 hk1 hS => ?_)
  obtain ⟨y4, hP1, hK1, hD1⟩ := hB
  rw [ht] at hP1
  have hK1 := va_K.moved hvm.symm hK1
  obtain ⟨hP, hD⟩ := va_join (wr := [(m_first, .inl (kZ, 1000, .inl g_first))]) (w1 := [(h0, .inr (10, [.ref m_now, .ref m_draft, .ref m_past, .int j_acts, .ref m_images, .ref m_kept, .ref m_tape, .int j_taped, .int j_at, .int j_start, .int j_token, .int j_value, .int j_fault, .int j_place, .int j_latest, .ref m_low, .ref m_high, .ref m_first, .ref m_second, .ref m_lines, .ref m_others, .int j_shiftFirst, .int j_shiftMany, .int j_shiftLow, .int j_shiftHigh])), (m_now, .inl (kI, 192, .inl g_now)), (m_low, .inl (kI, 1000, .inl g_low)), (m_high, .inl (kI, 1000, .inl g_high)), (m_second, .inl (kZ, 1000, .inl y4))]) hP hD [0, 1, 2, 3, 5] [4] rfl rfl (by decide) (by decide) hk1 hFc hP1 hD1
  have hK := (hK.sub (tys' := [(kI, .int), (kZ, .boolean), (kZ, .boolean)]) [0, 1, 2] rfl).app hK1
  generalize H1 = H at hP hS ⊢
  have hP : va_P D vwCl [(m_first, .inl (kZ, 1000, .inl g_first)), (h0, .inr (10, [.ref m_now, .ref m_draft, .ref m_past, .int j_acts, .ref m_images, .ref m_kept, .ref m_tape, .int j_taped, .int j_at, .int j_start, .int j_token, .int j_value, .int j_fault, .int j_place, .int j_latest, .ref m_low, .ref m_high, .ref m_first, .ref m_second, .ref m_lines, .ref m_others, .int j_shiftFirst, .int j_shiftMany, .int j_shiftLow, .int j_shiftHigh])), (m_now, .inl (kI, 192, .inl g_now)), (m_low, .inl (kI, 1000, .inl g_low)), (m_high, .inl (kI, 1000, .inl g_high)), (m_second, .inl (kZ, 1000, .inl y4))] H := hP
  have hD : va_D A [(m_first, .inl (kZ, 1000, .inl g_first)), (h0, .inr (10, [.ref m_now, .ref m_draft, .ref m_past, .int j_acts, .ref m_images, .ref m_kept, .ref m_tape, .int j_taped, .int j_at, .int j_start, .int j_token, .int j_value, .int j_fault, .int j_place, .int j_latest, .ref m_low, .ref m_high, .ref m_first, .ref m_second, .ref m_lines, .ref m_others, .int j_shiftFirst, .int j_shiftMany, .int j_shiftLow, .int j_shiftHigh])), (m_now, .inl (kI, 192, .inl g_now)), (m_low, .inl (kI, 1000, .inl g_low)), (m_high, .inl (kI, 1000, .inl g_high)), (m_second, .inl (kZ, 1000, .inl y4))] := hD
  have hK : va_K D vwCl [(kI, .int), (kZ, .boolean), (kZ, .boolean), (kI, .int), (kZ, .boolean)] s := hK
  refine W.widen (k := 0) (n := 0) (Nat.le_of_ble_eq_true rfl) (Nat.le_of_ble_eq_true rfl) ?_
  refine lv_aload_n hx hb dX10_goes_18 rfl (lv_at hl 0 rfl) ?_
  refine va_get (D := D) (ci := 10) (v := .ref m_first) (C := RX10) (T := TX10) (N := 25) hx hb hts (fun _ h => List.mem_cons_of_mem _ (List.mem_append_right _ h)) hown hK hP 1 rfl rfl 17 (by decide) (hts (.fieldLink RX10 35 "LineCitesModel" "first" "[Z") (List.mem_of_getElem? (i := 21) rfl)) (fun _ h9 => h9) rfl dX10_goes_19 ?_
  have hPc := hP.sub (ws' := [(m_first, .inl (kZ, 1000, .inl g_first))]) [0] rfl
  have hKc := hK.sub (tys' := [(kZ, .boolean)]) [1] rfl
  have hDc := hD.sub (ws' := [(m_first, .inl (kZ, 1000, .inl g_first))]) [0] (by decide) rfl
  have hFc := va_free (wc := [(m_first, .inl (kZ, 1000, .inl g_first))]) hD hS hA [0] rfl
  refine va_callv (va_runS (As := [.ref m_first]) (rest := []) ⟨hx, hb, hml, hown, hts⟩ (c_X10_clears l D m_first kZ g_first H.size) (cwS 1 hts g_X10_goes_X10_clears rfl rfl rfl (by decide +kernel) ⟨Nat.le_of_ble_eq_true rfl, Nat.le_of_ble_eq_true rfl⟩) ⟨fun a U g mk q => by obtain ⟨q0, q1, qP, qK, qD⟩ := q; exact ⟨q0, q1, qP, va_K.moved (u := U) (U := U.calling g mk a) (Vm.Alike.refl U.vm) qK, qD⟩, fun U hU hW => ⟨rfl, by rw [hU], by rw [hU]; exact hPc, va_K.moved hW.alike hKc, hDc.weaken (fun _ _ _ _ => trivial)⟩⟩ rfl rfl hl.1 rfl (lv_room (Nat.le_of_ble_eq_true rfl)) dX10_goes_22 ⟨Nat.le_of_ble_eq_true rfl, Nat.le_of_ble_eq_true rfl⟩) hS (fun q _ h => hFc q h) hFc (fun u t H1 locs ht hvm hw hB hz1 hk1 hS => ?_)
  obtain ⟨y6, hP1, hK1, hD1⟩ := hB
  rw [ht] at hP1
  have hK1 := va_K.moved hvm.symm hK1
  obtain ⟨hP, hD⟩ := va_join (wr := [(h0, .inr (10, [.ref m_now, .ref m_draft, .ref m_past, .int j_acts, .ref m_images, .ref m_kept, .ref m_tape, .int j_taped, .int j_at, .int j_start, .int j_token, .int j_value, .int j_fault, .int j_place, .int j_latest, .ref m_low, .ref m_high, .ref m_first, .ref m_second, .ref m_lines, .ref m_others, .int j_shiftFirst, .int j_shiftMany, .int j_shiftLow, .int j_shiftHigh])), (m_now, .inl (kI, 192, .inl g_now)), (m_low, .inl (kI, 1000, .inl g_low)), (m_high, .inl (kI, 1000, .inl g_high)), (m_second, .inl (kZ, 1000, .inl y4))]) (w1 := [(m_first, .inl (kZ, 1000, .inl y6))]) hP hD [0] [1, 2, 3, 4, 5] rfl rfl (by decide) (by decide) hk1 hFc hP1 hD1
  have hK := (hK.sub (tys' := [(kI, .int), (kZ, .boolean), (kZ, .boolean), (kI, .int), (kZ, .boolean)]) [0, 1, 2, 3, 4] rfl).app hK1
  generalize H1 = H at hP hS ⊢
  have hP : va_P D vwCl [(h0, .inr (10, [.ref m_now, .ref m_draft, .ref m_past, .int j_acts, .ref m_images, .ref m_kept, .ref m_tape, .int j_taped, .int j_at, .int j_start, .int j_token, .int j_value, .int j_fault, .int j_place, .int j_latest, .ref m_low, .ref m_high, .ref m_first, .ref m_second, .ref m_lines, .ref m_others, .int j_shiftFirst, .int j_shiftMany, .int j_shiftLow, .int j_shiftHigh])), (m_now, .inl (kI, 192, .inl g_now)), (m_low, .inl (kI, 1000, .inl g_low)), (m_high, .inl (kI, 1000, .inl g_high)), (m_second, .inl (kZ, 1000, .inl y4)), (m_first, .inl (kZ, 1000, .inl y6))] H := hP
  have hD : va_D A [(h0, .inr (10, [.ref m_now, .ref m_draft, .ref m_past, .int j_acts, .ref m_images, .ref m_kept, .ref m_tape, .int j_taped, .int j_at, .int j_start, .int j_token, .int j_value, .int j_fault, .int j_place, .int j_latest, .ref m_low, .ref m_high, .ref m_first, .ref m_second, .ref m_lines, .ref m_others, .int j_shiftFirst, .int j_shiftMany, .int j_shiftLow, .int j_shiftHigh])), (m_now, .inl (kI, 192, .inl g_now)), (m_low, .inl (kI, 1000, .inl g_low)), (m_high, .inl (kI, 1000, .inl g_high)), (m_second, .inl (kZ, 1000, .inl y4)), (m_first, .inl (kZ, 1000, .inl y6))] := hD
  have hK : va_K D vwCl [(kI, .int), (kZ, .boolean), (kZ, .boolean), (kI, .int), (kZ, .boolean), (kZ, .boolean)] s := hK
  refine W.widen (k := 0) (n := 0) (Nat.le_of_ble_eq_true rfl) (Nat.le_of_ble_eq_true rfl) ?_
  refine lv_iconst (v := 1) hx hb dX10_goes_25 (by decide) ?_
  refine lv_istore (lv' := [(5, .int 1), (0, .ref h0), (1, .int i_a), (2, .int i_n), (3, .int i_c), (4, .int i_b2)]) hx hb dX10_goes_26 hl (by decide) rfl (fun ls hl => ?_)
  have hl9 : lv_has ls 6 [(0, .ref h0), (1, .int i_a), (2, .int i_n), (3, .int i_c), (4, .int i_b2), (5, .int 1)] := lv_sub hl [1, 2, 3, 4, 5, 0] rfl
  refine pw_loop (fun (zz : Int32 × (Nat → Int32)) H locs ls => match zz with | (v30, f31) => va_P D vwCl [(h0, .inr (10, [.ref m_now, .ref m_draft, .ref m_past, .int j_acts, .ref m_images, .ref m_kept, .ref m_tape, .int j_taped, .int j_at, .int j_start, .int j_token, .int j_value, .int j_fault, .int j_place, .int j_latest, .ref m_low, .ref m_high, .ref m_first, .ref m_second, .ref m_lines, .ref m_others, .int j_shiftFirst, .int j_shiftMany, .int j_shiftLow, .int j_shiftHigh])), (m_now, .inl (kI, 192, .inl g_now)), (m_low, .inl (kI, 1000, .inl g_low)), (m_high, .inl (kI, 1000, .inl g_high)), (m_second, .inl (kZ, 1000, .inl y4)), (m_first, .inl (kZ, 1000, .inl f31))] H ∧ va_D A [(h0, .inr (10, [.ref m_now, .ref m_draft, .ref m_past, .int j_acts, .ref m_images, .ref m_kept, .ref m_tape, .int j_taped, .int j_at, .int j_start, .int j_token, .int j_value, .int j_fault, .int j_place, .int j_latest, .ref m_low, .ref m_high, .ref m_first, .ref m_second, .ref m_lines, .ref m_others, .int j_shiftFirst, .int j_shiftMany, .int j_shiftLow, .int j_shiftHigh])), (m_now, .inl (kI, 192, .inl g_now)), (m_low, .inl (kI, 1000, .inl g_low)), (m_high, .inl (kI, 1000, .inl g_high)), (m_second, .inl (kZ, 1000, .inl y4)), (m_first, .inl (kZ, 1000, .inl f31))] ∧ va_S A s.heap H locs ∧ lv_has ls 6 [(0, .ref h0), (1, .int i_a), (2, .int i_n), (3, .int i_c), (4, .int i_b2), (5, .int v30)] ∧ 1 ≤ v30.toInt) (fun (zz : Int32 × (Nat → Int32))  => match zz with | (v30, f31) => (2147483648 - v30.toInt).toNat) 0 0 (fun (zz : Int32 × (Nat → Int32)) ls => match zz with | (v30, f31) => F0 m 28 ls []) (fun zz H locs ls ih32 hI => ?_) (1, y6) _ _ _ ⟨hP, hD, hS, hl9, (by decide)⟩
  obtain ⟨v30, f31⟩ := zz
  obtain ⟨hP, hD, hS, hl, bv30⟩ := hI
  have bv30 : 1 ≤ v30.toInt := bv30
  have hP : va_P D vwCl [(h0, .inr (10, [.ref m_now, .ref m_draft, .ref m_past, .int j_acts, .ref m_images, .ref m_kept, .ref m_tape, .int j_taped, .int j_at, .int j_start, .int j_token, .int j_value, .int j_fault, .int j_place, .int j_latest, .ref m_low, .ref m_high, .ref m_first, .ref m_second, .ref m_lines, .ref m_others, .int j_shiftFirst, .int j_shiftMany, .int j_shiftLow, .int j_shiftHigh])), (m_now, .inl (kI, 192, .inl g_now)), (m_low, .inl (kI, 1000, .inl g_low)), (m_high, .inl (kI, 1000, .inl g_high)), (m_second, .inl (kZ, 1000, .inl y4)), (m_first, .inl (kZ, 1000, .inl f31))] H := hP
  have hD : va_D A [(h0, .inr (10, [.ref m_now, .ref m_draft, .ref m_past, .int j_acts, .ref m_images, .ref m_kept, .ref m_tape, .int j_taped, .int j_at, .int j_start, .int j_token, .int j_value, .int j_fault, .int j_place, .int j_latest, .ref m_low, .ref m_high, .ref m_first, .ref m_second, .ref m_lines, .ref m_others, .int j_shiftFirst, .int j_shiftMany, .int j_shiftLow, .int j_shiftHigh])), (m_now, .inl (kI, 192, .inl g_now)), (m_low, .inl (kI, 1000, .inl g_low)), (m_high, .inl (kI, 1000, .inl g_high)), (m_second, .inl (kZ, 1000, .inl y4)), (m_first, .inl (kZ, 1000, .inl f31))] := hD
  have hK : va_K D vwCl [(kI, .int), (kZ, .boolean), (kZ, .boolean), (kI, .int), (kZ, .boolean), (kZ, .boolean)] s := hK
  have hl : lv_has ls 6 [(0, .ref h0), (1, .int i_a), (2, .int i_n), (3, .int i_c), (4, .int i_b2), (5, .int v30)] := hl
  refine W.eq (g2 := F0 m 28 ls []) rfl ?_
  refine lv_iload hx hb dX10_goes_28 (lv_at hl 5 rfl) ?_
  refine lv_sipush (v := 1000) hx hb dX10_goes_30 (by decide) ?_
  refine lv_icmp_ge (tgt := 65) hx hb dX10_goes_33 (by decide) (fun c33 => ?_) (fun c33 => ?_)
  · have nc33 : 1000 ≤ v30.toInt := pw_le c33 (by decide) rfl
    have hP9 := hP.sub (ws' := [(h0, .inr (10, [.ref m_now, .ref m_draft, .ref m_past, .int j_acts, .ref m_images, .ref m_kept, .ref m_tape, .int j_taped, .int j_at, .int j_start, .int j_token, .int j_value, .int j_fault, .int j_place, .int j_latest, .ref m_low, .ref m_high, .ref m_first, .ref m_second, .ref m_lines, .ref m_others, .int j_shiftFirst, .int j_shiftMany, .int j_shiftLow, .int j_shiftHigh])), (m_now, .inl (kI, 192, .inl g_now)), (m_low, .inl (kI, 1000, .inl g_low)), (m_high, .inl (kI, 1000, .inl g_high)), (m_first, .inl (kZ, 1000, .inl f31)), (m_second, .inl (kZ, 1000, .inl y4))]) [0, 1, 2, 3, 5, 4] rfl
    have hD9 := hD.sub (ws' := [(h0, .inr (10, [.ref m_now, .ref m_draft, .ref m_past, .int j_acts, .ref m_images, .ref m_kept, .ref m_tape, .int j_taped, .int j_at, .int j_start, .int j_token, .int j_value, .int j_fault, .int j_place, .int j_latest, .ref m_low, .ref m_high, .ref m_first, .ref m_second, .ref m_lines, .ref m_others, .int j_shiftFirst, .int j_shiftMany, .int j_shiftLow, .int j_shiftHigh])), (m_now, .inl (kI, 192, .inl g_now)), (m_low, .inl (kI, 1000, .inl g_low)), (m_high, .inl (kI, 1000, .inl g_high)), (m_first, .inl (kZ, 1000, .inl f31)), (m_second, .inl (kZ, 1000, .inl y4))]) [0, 1, 2, 3, 5, 4] (by decide) rfl
    have hK9 := hK.sub (tys' := [(kI, .int), (kZ, .boolean)]) [0, 1] rfl
    refine W.widen (k := 0) (n := 0) (Nat.le_of_ble_eq_true rfl) (Nat.le_of_ble_eq_true rfl) ?_
    exact W.vret hx hb hr (fun t ht hW => ⟨⟨(), rfl, trivial, f31, y4, by rw [ht]; exact hP9, va_K.moved hW.alike hK9, hD9⟩, hS.F ht⟩) hS.2.2 dX10_goes_65
  · have nc33 : v30.toInt < 1000 := pw_nle c33 (by decide) rfl
    refine lv_aload_n hx hb dX10_goes_36 rfl (lv_at hl 0 rfl) ?_
    refine va_get (D := D) (ci := 10) (v := .ref m_second) (C := RX10) (T := TX10) (N := 25) hx hb hts (fun _ h => List.mem_cons_of_mem _ (List.mem_append_right _ h)) hown hK hP 0 rfl rfl 18 (by decide) (hts (.fieldLink RX10 38 "LineCitesModel" "second" "[Z") (List.mem_of_getElem? (i := 1) rfl)) (fun _ h9 => h9) rfl dX10_goes_37 ?_
    refine lv_iload hx hb dX10_goes_40 (lv_at hl 5 rfl) ?_
    refine va_zald hx hb hK hP 4 1 rfl rfl (vp_in_iff.mpr ⟨by omega, by omega⟩) dX10_goes_42 ?_
    refine lv_topi (fun x34 ex34 => ?_)
    refine pw_join (fun (f38 : Nat → Int32) H locs ls => va_P D vwCl [(h0, .inr (10, [.ref m_now, .ref m_draft, .ref m_past, .int j_acts, .ref m_images, .ref m_kept, .ref m_tape, .int j_taped, .int j_at, .int j_start, .int j_token, .int j_value, .int j_fault, .int j_place, .int j_latest, .ref m_low, .ref m_high, .ref m_first, .ref m_second, .ref m_lines, .ref m_others, .int j_shiftFirst, .int j_shiftMany, .int j_shiftLow, .int j_shiftHigh])), (m_now, .inl (kI, 192, .inl g_now)), (m_low, .inl (kI, 1000, .inl g_low)), (m_high, .inl (kI, 1000, .inl g_high)), (m_second, .inl (kZ, 1000, .inl y4)), (m_first, .inl (kZ, 1000, .inl f38))] H ∧ va_D A [(h0, .inr (10, [.ref m_now, .ref m_draft, .ref m_past, .int j_acts, .ref m_images, .ref m_kept, .ref m_tape, .int j_taped, .int j_at, .int j_start, .int j_token, .int j_value, .int j_fault, .int j_place, .int j_latest, .ref m_low, .ref m_high, .ref m_first, .ref m_second, .ref m_lines, .ref m_others, .int j_shiftFirst, .int j_shiftMany, .int j_shiftLow, .int j_shiftHigh])), (m_now, .inl (kI, 192, .inl g_now)), (m_low, .inl (kI, 1000, .inl g_low)), (m_high, .inl (kI, 1000, .inl g_high)), (m_second, .inl (kZ, 1000, .inl y4)), (m_first, .inl (kZ, 1000, .inl f38))] ∧ va_S A s.heap H locs ∧ lv_has ls 6 [(0, .ref h0), (1, .int i_a), (2, .int i_n), (3, .int i_c), (4, .int i_b2), (5, .int v30)]) 0 0 (fun (f38 : Nat → Int32) ls => F0 m 59 ls []) (fun f38 H locs ls hI => ?_) (fun hJ39 => ?_)
    ·
      obtain ⟨hP, hD, hS, hl⟩ := hI
      have hP : va_P D vwCl [(h0, .inr (10, [.ref m_now, .ref m_draft, .ref m_past, .int j_acts, .ref m_images, .ref m_kept, .ref m_tape, .int j_taped, .int j_at, .int j_start, .int j_token, .int j_value, .int j_fault, .int j_place, .int j_latest, .ref m_low, .ref m_high, .ref m_first, .ref m_second, .ref m_lines, .ref m_others, .int j_shiftFirst, .int j_shiftMany, .int j_shiftLow, .int j_shiftHigh])), (m_now, .inl (kI, 192, .inl g_now)), (m_low, .inl (kI, 1000, .inl g_low)), (m_high, .inl (kI, 1000, .inl g_high)), (m_second, .inl (kZ, 1000, .inl y4)), (m_first, .inl (kZ, 1000, .inl f38))] H := hP
      have hD : va_D A [(h0, .inr (10, [.ref m_now, .ref m_draft, .ref m_past, .int j_acts, .ref m_images, .ref m_kept, .ref m_tape, .int j_taped, .int j_at, .int j_start, .int j_token, .int j_value, .int j_fault, .int j_place, .int j_latest, .ref m_low, .ref m_high, .ref m_first, .ref m_second, .ref m_lines, .ref m_others, .int j_shiftFirst, .int j_shiftMany, .int j_shiftLow, .int j_shiftHigh])), (m_now, .inl (kI, 192, .inl g_now)), (m_low, .inl (kI, 1000, .inl g_low)), (m_high, .inl (kI, 1000, .inl g_high)), (m_second, .inl (kZ, 1000, .inl y4)), (m_first, .inl (kZ, 1000, .inl f38))] := hD
      have hK : va_K D vwCl [(kI, .int), (kZ, .boolean), (kZ, .boolean), (kI, .int), (kZ, .boolean), (kZ, .boolean)] s := hK
      have hl : lv_has ls 6 [(0, .ref h0), (1, .int i_a), (2, .int i_n), (3, .int i_c), (4, .int i_b2), (5, .int v30)] := hl
      refine W.eq (g2 := F0 m 59 ls []) rfl ?_
      obtain ⟨x40, ex40⟩ : ∃ y : Int32, y = v30 + 1 := ⟨_, rfl⟩
      have tx40 : x40.toInt = v30.toInt + 1 := pw_addX ex40 rfl (by decide) (by omega) (by omega)
      refine lv_iinc (v := x40) (lv' := [(5, .int x40), (0, .ref h0), (1, .int i_a), (2, .int i_n), (3, .int i_c), (4, .int i_b2)]) hx hb dX10_goes_59 hl (k := 5) rfl (by rw [ex40]; rfl) (by decide) rfl (fun ls hl => ?_)
      refine lv_goto (tgt := 28) hx hb dX10_goes_62 (by decide) ?_
      have hP9 : va_P D vwCl [(h0, .inr (10, [.ref m_now, .ref m_draft, .ref m_past, .int j_acts, .ref m_images, .ref m_kept, .ref m_tape, .int j_taped, .int j_at, .int j_start, .int j_token, .int j_value, .int j_fault, .int j_place, .int j_latest, .ref m_low, .ref m_high, .ref m_first, .ref m_second, .ref m_lines, .ref m_others, .int j_shiftFirst, .int j_shiftMany, .int j_shiftLow, .int j_shiftHigh])), (m_now, .inl (kI, 192, .inl g_now)), (m_low, .inl (kI, 1000, .inl g_low)), (m_high, .inl (kI, 1000, .inl g_high)), (m_second, .inl (kZ, 1000, .inl y4)), (m_first, .inl (kZ, 1000, .inl f38))] H := hP.sub [0, 1, 2, 3, 4, 5] rfl
      have hD9 : va_D A [(h0, .inr (10, [.ref m_now, .ref m_draft, .ref m_past, .int j_acts, .ref m_images, .ref m_kept, .ref m_tape, .int j_taped, .int j_at, .int j_start, .int j_token, .int j_value, .int j_fault, .int j_place, .int j_latest, .ref m_low, .ref m_high, .ref m_first, .ref m_second, .ref m_lines, .ref m_others, .int j_shiftFirst, .int j_shiftMany, .int j_shiftLow, .int j_shiftHigh])), (m_now, .inl (kI, 192, .inl g_now)), (m_low, .inl (kI, 1000, .inl g_low)), (m_high, .inl (kI, 1000, .inl g_high)), (m_second, .inl (kZ, 1000, .inl y4)), (m_first, .inl (kZ, 1000, .inl f38))] := hD.sub [0, 1, 2, 3, 4, 5] (by decide) rfl
      have hl9 : lv_has ls 6 [(0, .ref h0), (1, .int i_a), (2, .int i_n), (3, .int i_c), (4, .int i_b2), (5, .int x40)] := lv_sub hl [1, 2, 3, 4, 5, 0] rfl
      refine W.widen (k := 0) (n := 0) (Nat.le_of_ble_eq_true rfl) (Nat.le_of_ble_eq_true rfl) ?_
      exact ih32 (x40, f38) _ _ _ (pw_up ex40 (by omega)) ⟨hP9, hD9, hS, hl9, (pw_upge ex40 (by omega) (by omega))⟩
    ·
      refine lv_if_eq (tgt := 59) hx hb dX10_goes_43 (by decide) (fun c41 => ?_) (fun c41 => ?_)
      · have nc41 : x34.toInt = 0 := pw_eq c41 rfl (by decide)
        have hP9 : va_P D vwCl [(h0, .inr (10, [.ref m_now, .ref m_draft, .ref m_past, .int j_acts, .ref m_images, .ref m_kept, .ref m_tape, .int j_taped, .int j_at, .int j_start, .int j_token, .int j_value, .int j_fault, .int j_place, .int j_latest, .ref m_low, .ref m_high, .ref m_first, .ref m_second, .ref m_lines, .ref m_others, .int j_shiftFirst, .int j_shiftMany, .int j_shiftLow, .int j_shiftHigh])), (m_now, .inl (kI, 192, .inl g_now)), (m_low, .inl (kI, 1000, .inl g_low)), (m_high, .inl (kI, 1000, .inl g_high)), (m_second, .inl (kZ, 1000, .inl y4)), (m_first, .inl (kZ, 1000, .inl f31))] H := hP.sub [0, 1, 2, 3, 4, 5] rfl
        have hD9 : va_D A [(h0, .inr (10, [.ref m_now, .ref m_draft, .ref m_past, .int j_acts, .ref m_images, .ref m_kept, .ref m_tape, .int j_taped, .int j_at, .int j_start, .int j_token, .int j_value, .int j_fault, .int j_place, .int j_latest, .ref m_low, .ref m_high, .ref m_first, .ref m_second, .ref m_lines, .ref m_others, .int j_shiftFirst, .int j_shiftMany, .int j_shiftLow, .int j_shiftHigh])), (m_now, .inl (kI, 192, .inl g_now)), (m_low, .inl (kI, 1000, .inl g_low)), (m_high, .inl (kI, 1000, .inl g_high)), (m_second, .inl (kZ, 1000, .inl y4)), (m_first, .inl (kZ, 1000, .inl f31))] := hD.sub [0, 1, 2, 3, 4, 5] (by decide) rfl
        have hl9 : lv_has ls 6 [(0, .ref h0), (1, .int i_a), (2, .int i_n), (3, .int i_c), (4, .int i_b2), (5, .int v30)] := lv_sub hl [0, 1, 2, 3, 4, 5] rfl
        refine W.widen (k := 0) (n := 0) (Nat.le_of_ble_eq_true rfl) (Nat.le_of_ble_eq_true rfl) ?_
        exact hJ39 f31 _ _ _ ⟨hP9, hD9, hS, hl9⟩
      · have nc41 : x34.toInt ≠ 0 := pw_ne c41 rfl (by decide)
        refine lv_aload_n hx hb dX10_goes_46 rfl (lv_at hl 0 rfl) ?_
        refine lv_iload_n hx hb dX10_goes_47 rfl (lv_at hl 3 rfl) ?_
        refine lv_iload hx hb dX10_goes_48 (lv_at hl 5 rfl) ?_
        refine lv_iload hx hb dX10_goes_50 (lv_at hl 4 rfl) ?_
        refine lv_aload_n hx hb dX10_goes_52 rfl (lv_at hl 0 rfl) ?_
        refine va_get (D := D) (ci := 10) (v := .ref m_first) (C := RX10) (T := TX10) (N := 25) hx hb hts (fun _ h => List.mem_cons_of_mem _ (List.mem_append_right _ h)) hown hK hP 0 rfl rfl 17 (by decide) (hts (.fieldLink RX10 35 "LineCitesModel" "first" "[Z") (List.mem_of_getElem? (i := 21) rfl)) (fun _ h9 => h9) rfl dX10_goes_53 ?_
        have hPc := hP.sub (ws' := [(h0, .inr (10, [.ref m_now, .ref m_draft, .ref m_past, .int j_acts, .ref m_images, .ref m_kept, .ref m_tape, .int j_taped, .int j_at, .int j_start, .int j_token, .int j_value, .int j_fault, .int j_place, .int j_latest, .ref m_low, .ref m_high, .ref m_first, .ref m_second, .ref m_lines, .ref m_others, .int j_shiftFirst, .int j_shiftMany, .int j_shiftLow, .int j_shiftHigh])), (m_now, .inl (kI, 192, .inl g_now)), (m_low, .inl (kI, 1000, .inl g_low)), (m_high, .inl (kI, 1000, .inl g_high)), (m_first, .inl (kZ, 1000, .inl f31))]) [0, 1, 2, 3, 5] rfl
        have hKc := hK.sub (tys' := [(kI, .int), (kZ, .boolean)]) [0, 1] rfl
        have hDc := hD.sub (ws' := [(h0, .inr (10, [.ref m_now, .ref m_draft, .ref m_past, .int j_acts, .ref m_images, .ref m_kept, .ref m_tape, .int j_taped, .int j_at, .int j_start, .int j_token, .int j_value, .int j_fault, .int j_place, .int j_latest, .ref m_low, .ref m_high, .ref m_first, .ref m_second, .ref m_lines, .ref m_others, .int j_shiftFirst, .int j_shiftMany, .int j_shiftLow, .int j_shiftHigh])), (m_now, .inl (kI, 192, .inl g_now)), (m_low, .inl (kI, 1000, .inl g_low)), (m_high, .inl (kI, 1000, .inl g_high)), (m_first, .inl (kZ, 1000, .inl f31))]) [0, 1, 2, 3, 5] (by decide) rfl
        have hFc := va_free (wc := [(h0, .inr (10, [.ref m_now, .ref m_draft, .ref m_past, .int j_acts, .ref m_images, .ref m_kept, .ref m_tape, .int j_taped, .int j_at, .int j_start, .int j_token, .int j_value, .int j_fault, .int j_place, .int j_latest, .ref m_low, .ref m_high, .ref m_first, .ref m_second, .ref m_lines, .ref m_others, .int j_shiftFirst, .int j_shiftMany, .int j_shiftLow, .int j_shiftHigh])), (m_now, .inl (kI, 192, .inl g_now)), (m_low, .inl (kI, 1000, .inl g_low)), (m_high, .inl (kI, 1000, .inl g_high)), (m_first, .inl (kZ, 1000, .inl f31))]) hD hS hA [0, 1, 2, 3, 5] rfl
        refine va_callv (va_runV (As := [.int i_c, .int v30, .int i_b2, .ref m_first]) (rest := []) ⟨hx, hb, hml, hown, hts⟩ (c_X10_comes l D h0 i_c v30 i_b2 m_first m_now m_draft m_past j_acts m_images m_kept m_tape j_taped j_at j_start j_token j_value j_fault j_place j_latest m_low m_high m_first m_second m_lines m_others j_shiftFirst j_shiftMany j_shiftLow j_shiftHigh kI g_now g_low g_high kZ f31 H.size (by first | decide | omega) (by first | decide | omega) (by first | decide | omega) (by first | decide | omega) hg_now hg_low hg_high) (cwV 4 hts g_X10_goes_X10_comes rfl rfl rfl (by decide +kernel) ⟨Nat.le_of_ble_eq_true rfl, Nat.le_of_ble_eq_true rfl⟩) ⟨fun a U g mk q => by obtain ⟨q0, q1, qP, qK, qD⟩ := q; exact ⟨q0, q1, qP, va_K.moved (u := U) (U := U.calling g mk a) (Vm.Alike.refl U.vm) qK, qD⟩, va_recv hKc hPc (ci := 10) (q0 := 0) rfl rfl, fun U hU hW => ⟨rfl, by rw [hU], by rw [hU]; exact hPc, va_K.moved hW.alike hKc, hDc.weaken (fun _ _ _ _ => trivial)⟩⟩ rfl rfl hl.1 rfl (lv_room (Nat.le_of_ble_eq_true rfl)) dX10_goes_56 ⟨Nat.le_of_ble_eq_true rfl, Nat.le_of_ble_eq_true rfl⟩) hS (fun q _ h => hFc q h) hFc (fun u t H1 locs ht hvm hw hB hz1 hk1 hS => ?_)
        obtain ⟨y43, hP1, hK1, hD1⟩ := hB
        rw [ht] at hP1
        have hK1 := va_K.moved hvm.symm hK1
        obtain ⟨hP, hD⟩ := va_join (wr := [(m_second, .inl (kZ, 1000, .inl y4))]) (w1 := [(h0, .inr (10, [.ref m_now, .ref m_draft, .ref m_past, .int j_acts, .ref m_images, .ref m_kept, .ref m_tape, .int j_taped, .int j_at, .int j_start, .int j_token, .int j_value, .int j_fault, .int j_place, .int j_latest, .ref m_low, .ref m_high, .ref m_first, .ref m_second, .ref m_lines, .ref m_others, .int j_shiftFirst, .int j_shiftMany, .int j_shiftLow, .int j_shiftHigh])), (m_now, .inl (kI, 192, .inl g_now)), (m_low, .inl (kI, 1000, .inl g_low)), (m_high, .inl (kI, 1000, .inl g_high)), (m_first, .inl (kZ, 1000, .inl y43))]) hP hD [0, 1, 2, 3, 5] [4] rfl rfl (by decide) (by decide) hk1 hFc hP1 hD1
        have hK := (hK.sub (tys' := [(kI, .int), (kZ, .boolean), (kZ, .boolean), (kI, .int), (kZ, .boolean), (kZ, .boolean)]) [0, 1, 2, 3, 4, 5] rfl).app hK1
        generalize H1 = H at hP hS ⊢
        have hP : va_P D vwCl [(m_second, .inl (kZ, 1000, .inl y4)), (h0, .inr (10, [.ref m_now, .ref m_draft, .ref m_past, .int j_acts, .ref m_images, .ref m_kept, .ref m_tape, .int j_taped, .int j_at, .int j_start, .int j_token, .int j_value, .int j_fault, .int j_place, .int j_latest, .ref m_low, .ref m_high, .ref m_first, .ref m_second, .ref m_lines, .ref m_others, .int j_shiftFirst, .int j_shiftMany, .int j_shiftLow, .int j_shiftHigh])), (m_now, .inl (kI, 192, .inl g_now)), (m_low, .inl (kI, 1000, .inl g_low)), (m_high, .inl (kI, 1000, .inl g_high)), (m_first, .inl (kZ, 1000, .inl y43))] H := hP
        have hD : va_D A [(m_second, .inl (kZ, 1000, .inl y4)), (h0, .inr (10, [.ref m_now, .ref m_draft, .ref m_past, .int j_acts, .ref m_images, .ref m_kept, .ref m_tape, .int j_taped, .int j_at, .int j_start, .int j_token, .int j_value, .int j_fault, .int j_place, .int j_latest, .ref m_low, .ref m_high, .ref m_first, .ref m_second, .ref m_lines, .ref m_others, .int j_shiftFirst, .int j_shiftMany, .int j_shiftLow, .int j_shiftHigh])), (m_now, .inl (kI, 192, .inl g_now)), (m_low, .inl (kI, 1000, .inl g_low)), (m_high, .inl (kI, 1000, .inl g_high)), (m_first, .inl (kZ, 1000, .inl y43))] := hD
        have hK : va_K D vwCl [(kI, .int), (kZ, .boolean), (kZ, .boolean), (kI, .int), (kZ, .boolean), (kZ, .boolean), (kI, .int), (kZ, .boolean)] s := hK
        refine W.widen (k := 0) (n := 0) (Nat.le_of_ble_eq_true rfl) (Nat.le_of_ble_eq_true rfl) ?_
        have hP9 : va_P D vwCl [(h0, .inr (10, [.ref m_now, .ref m_draft, .ref m_past, .int j_acts, .ref m_images, .ref m_kept, .ref m_tape, .int j_taped, .int j_at, .int j_start, .int j_token, .int j_value, .int j_fault, .int j_place, .int j_latest, .ref m_low, .ref m_high, .ref m_first, .ref m_second, .ref m_lines, .ref m_others, .int j_shiftFirst, .int j_shiftMany, .int j_shiftLow, .int j_shiftHigh])), (m_now, .inl (kI, 192, .inl g_now)), (m_low, .inl (kI, 1000, .inl g_low)), (m_high, .inl (kI, 1000, .inl g_high)), (m_second, .inl (kZ, 1000, .inl y4)), (m_first, .inl (kZ, 1000, .inl y43))] H := hP.sub [1, 2, 3, 4, 0, 5] rfl
        have hD9 : va_D A [(h0, .inr (10, [.ref m_now, .ref m_draft, .ref m_past, .int j_acts, .ref m_images, .ref m_kept, .ref m_tape, .int j_taped, .int j_at, .int j_start, .int j_token, .int j_value, .int j_fault, .int j_place, .int j_latest, .ref m_low, .ref m_high, .ref m_first, .ref m_second, .ref m_lines, .ref m_others, .int j_shiftFirst, .int j_shiftMany, .int j_shiftLow, .int j_shiftHigh])), (m_now, .inl (kI, 192, .inl g_now)), (m_low, .inl (kI, 1000, .inl g_low)), (m_high, .inl (kI, 1000, .inl g_high)), (m_second, .inl (kZ, 1000, .inl y4)), (m_first, .inl (kZ, 1000, .inl y43))] := hD.sub [1, 2, 3, 4, 0, 5] (by decide) rfl
        have hl9 : lv_has ls 6 [(0, .ref h0), (1, .int i_a), (2, .int i_n), (3, .int i_c), (4, .int i_b2), (5, .int v30)] := lv_sub hl [0, 1, 2, 3, 4, 5] rfl
        refine W.widen (k := 0) (n := 0) (Nat.le_of_ble_eq_true rfl) (Nat.le_of_ble_eq_true rfl) ?_
        exact hJ39 y43 _ _ _ ⟨hP9, hD9, hS, hl9⟩
def w_X10_laysNumbers : List Cond := .code yX10_laysNumbers cX10_laysNumbers 4 none :: ([.methodLink RX10 87 yX10_clears, .static yX10_clears, .initialized RX10, .code yX10_clears cX10_clears 2 none, .fieldLink RX10 7 "LineCitesModel" "now" "[I", .methodLink RX10 73 yX10_hasNumber, .instanceMethod yX10_hasNumber, .selects RX10 yX10_hasNumber yX10_hasNumber, .code yX10_hasNumber cX10_hasNumber 3 (some .boolean), .fieldLink RX10 29 "LineCitesModel" "low" "[I", .fieldLink RX10 32 "LineCitesModel" "high" "[I"] ++ wsX100)
set_option maxRecDepth 20000 in
theorem g_X10_laysNumbers_X10_clears : GoodIn w_X10_laysNumbers (wsS RX10 87 yX10_clears w_X10_clears) := goodIn_r _ [1, 2, 3, 4] rfl (by decide +kernel)
set_option maxRecDepth 20000 in
theorem g_X10_laysNumbers_X10_hasNumber : GoodIn w_X10_laysNumbers (wsV RX10 73 RX10 yX10_hasNumber w_X10_hasNumber) := goodIn_r _ [6, 7, 8, 3, 9, 10, 12, 13, 14, 15, 16, 17, 18, 19, 20, 21, 22, 23, 24, 25, 26, 27, 28, 29, 30, 31, 32, 33, 34, 35, 36] rfl (by decide +kernel)
set_option maxHeartbeats 4000000 in
set_option maxRecDepth 100000 in
theorem c_X10_laysNumbers (l : Launch) (D : va_G) (h0 : Nat) (i_e : Int32) (b : Nat) (m_now : Nat) (m_draft : Nat) (m_past : Nat) (j_acts : Int32) (m_images : Nat) (m_kept : Nat) (m_tape : Nat) (j_taped : Int32) (j_at : Int32) (j_start : Int32) (j_token : Int32) (j_value : Int32) (j_fault : Int32) (j_place : Int32) (j_latest : Int32) (m_low : Nat) (m_high : Nat) (m_first : Nat) (m_second : Nat) (m_lines : Nat) (m_others : Nat) (j_shiftFirst : Int32) (j_shiftMany : Int32) (j_shiftLow : Int32) (j_shiftHigh : Int32) (kI : ClassId) (g_now : Nat → Int32) (g_low : Nat → Int32) (g_high : Nat → Int32) (kZ : ClassId) (g_b : Nat → Int32) (sz : Nat) (h0i_e : 0 ≤ i_e.toInt) (h1i_e : i_e.toInt ≤ 4) (hg_now : gV g_now) (hg_low : bP g_low) (hg_high : bP g_high) : Met l yX10_laysNumbers w_X10_laysNumbers ({ frames := 1, cells := 0, slots := 0, locals := 22 }) (va_Pc [.ref h0, .int i_e, .ref b] (fun U => U.heap.size = sz ∧ va_P D vwCl [(h0, .inr (10, [.ref m_now, .ref m_draft, .ref m_past, .int j_acts, .ref m_images, .ref m_kept, .ref m_tape, .int j_taped, .int j_at, .int j_start, .int j_token, .int j_value, .int j_fault, .int j_place, .int j_latest, .ref m_low, .ref m_high, .ref m_first, .ref m_second, .ref m_lines, .ref m_others, .int j_shiftFirst, .int j_shiftMany, .int j_shiftLow, .int j_shiftHigh])), (m_now, .inl (kI, 192, .inl g_now)), (m_low, .inl (kI, 1000, .inl g_low)), (m_high, .inl (kI, 1000, .inl g_high)), (b, .inl (kZ, 1000, .inl g_b))] U.heap ∧ va_K D vwCl [(kI, .int), (kZ, .boolean)] U ∧ va_D (fun _ => True) [(h0, .inr (10, [.ref m_now, .ref m_draft, .ref m_past, .int j_acts, .ref m_images, .ref m_kept, .ref m_tape, .int j_taped, .int j_at, .int j_start, .int j_token, .int j_value, .int j_fault, .int j_place, .int j_latest, .ref m_low, .ref m_high, .ref m_first, .ref m_second, .ref m_lines, .ref m_others, .int j_shiftFirst, .int j_shiftMany, .int j_shiftLow, .int j_shiftHigh])), (m_now, .inl (kI, 192, .inl g_now)), (m_low, .inl (kI, 1000, .inl g_low)), (m_high, .inl (kI, 1000, .inl g_high)), (b, .inl (kZ, 1000, .inl g_b))])) (va_Qv (fun (_ : Unit) => True) (fun (_ : Unit) t => ∃ (n_b : Nat → Int32), va_P D vwCl [(h0, .inr (10, [.ref m_now, .ref m_draft, .ref m_past, .int j_acts, .ref m_images, .ref m_kept, .ref m_tape, .int j_taped, .int j_at, .int j_start, .int j_token, .int j_value, .int j_fault, .int j_place, .int j_latest, .ref m_low, .ref m_high, .ref m_first, .ref m_second, .ref m_lines, .ref m_others, .int j_shiftFirst, .int j_shiftMany, .int j_shiftLow, .int j_shiftHigh])), (m_now, .inl (kI, 192, .inl g_now)), (m_low, .inl (kI, 1000, .inl g_low)), (m_high, .inl (kI, 1000, .inl g_high)), (b, .inl (kZ, 1000, .inl n_b))] t.heap ∧ va_K D vwCl [(kI, .int), (kZ, .boolean)] t ∧ va_D (va_A [(h0, .inr (10, [.ref m_now, .ref m_draft, .ref m_past, .int j_acts, .ref m_images, .ref m_kept, .ref m_tape, .int j_taped, .int j_at, .int j_start, .int j_token, .int j_value, .int j_fault, .int j_place, .int j_latest, .ref m_low, .ref m_high, .ref m_first, .ref m_second, .ref m_lines, .ref m_others, .int j_shiftFirst, .int j_shiftMany, .int j_shiftLow, .int j_shiftHigh])), (m_now, .inl (kI, 192, .inl g_now)), (m_low, .inl (kI, 1000, .inl g_low)), (m_high, .inl (kI, 1000, .inl g_high)), (b, .inl (kZ, 1000, .inl g_b))] sz) [(h0, .inr (10, [.ref m_now, .ref m_draft, .ref m_past, .int j_acts, .ref m_images, .ref m_kept, .ref m_tape, .int j_taped, .int j_at, .int j_start, .int j_token, .int j_value, .int j_fault, .int j_place, .int j_latest, .ref m_low, .ref m_high, .ref m_first, .ref m_second, .ref m_lines, .ref m_others, .int j_shiftFirst, .int j_shiftMany, .int j_shiftLow, .int j_shiftHigh])), (m_now, .inl (kI, 192, .inl g_now)), (m_low, .inl (kI, 1000, .inl g_low)), (m_high, .inl (kI, 1000, .inl g_high)), (b, .inl (kZ, 1000, .inl n_b))]) (va_A [(h0, .inr (10, [.ref m_now, .ref m_draft, .ref m_past, .int j_acts, .ref m_images, .ref m_kept, .ref m_tape, .int j_taped, .int j_at, .int j_start, .int j_token, .int j_value, .int j_fault, .int j_place, .int j_latest, .ref m_low, .ref m_high, .ref m_first, .ref m_second, .ref m_lines, .ref m_others, .int j_shiftFirst, .int j_shiftMany, .int j_shiftLow, .int j_shiftHigh])), (m_now, .inl (kI, 192, .inl g_now)), (m_low, .inl (kI, 1000, .inl g_low)), (m_high, .inl (kI, 1000, .inl g_high)), (b, .inl (kZ, 1000, .inl g_b))] sz)) 0 0 (va_A [(h0, .inr (10, [.ref m_now, .ref m_draft, .ref m_past, .int j_acts, .ref m_images, .ref m_kept, .ref m_tape, .int j_taped, .int j_at, .int j_start, .int j_token, .int j_value, .int j_fault, .int j_place, .int j_latest, .ref m_low, .ref m_high, .ref m_first, .ref m_second, .ref m_lines, .ref m_others, .int j_shiftFirst, .int j_shiftMany, .int j_shiftLow, .int j_shiftHigh])), (m_now, .inl (kI, 192, .inl g_now)), (m_low, .inl (kI, 1000, .inl g_low)), (m_high, .inl (kI, 1000, .inl g_high)), (b, .inl (kZ, 1000, .inl g_b))] sz) := by
  refine Met.ofW (cc := cX10_laysNumbers) (maxL := 4) (ret := none) (by decide) rfl ?_
  intro p e s m args below meth c s₁ B hml hv
  obtain ⟨rfl, hsz, hP, hK, hD0⟩ := hv
  have hx := B.exec
  have hb := B.bytes
  have hr := B.returns
  have hts := atoms_spec (ws := w_X10_laysNumbers) B.pre
  have hown : s.vm.findClass RX10 = some m.cls := findClass_of_methodNamed B.named
  have hlocks := B.notSynchronized
  subst hsz
  have hD := hD0.self (sz := s.heap.size)
  generalize hAe : va_A [(h0, .inr (10, [.ref m_now, .ref m_draft, .ref m_past, .int j_acts, .ref m_images, .ref m_kept, .ref m_tape, .int j_taped, .int j_at, .int j_start, .int j_token, .int j_value, .int j_fault, .int j_place, .int j_latest, .ref m_low, .ref m_high, .ref m_first, .ref m_second, .ref m_lines, .ref m_others, .int j_shiftFirst, .int j_shiftMany, .int j_shiftLow, .int j_shiftHigh])), (m_now, .inl (kI, 192, .inl g_now)), (m_low, .inl (kI, 1000, .inl g_low)), (m_high, .inl (kI, 1000, .inl g_high)), (b, .inl (kZ, 1000, .inl g_b))] s.heap.size = A at hD ⊢
  have hA : ∀ q : Nat, s.heap.size ≤ q → A q := fun q h => by rw [← hAe]; exact Or.inr h
  have hS : va_S A s.heap s.heap [] := va_S.rf
  have hP : va_P D vwCl [(h0, .inr (10, [.ref m_now, .ref m_draft, .ref m_past, .int j_acts, .ref m_images, .ref m_kept, .ref m_tape, .int j_taped, .int j_at, .int j_start, .int j_token, .int j_value, .int j_fault, .int j_place, .int j_latest, .ref m_low, .ref m_high, .ref m_first, .ref m_second, .ref m_lines, .ref m_others, .int j_shiftFirst, .int j_shiftMany, .int j_shiftLow, .int j_shiftHigh])), (m_now, .inl (kI, 192, .inl g_now)), (m_low, .inl (kI, 1000, .inl g_low)), (m_high, .inl (kI, 1000, .inl g_high)), (b, .inl (kZ, 1000, .inl g_b))] s.heap := hP
  have hl := lv_entry ([.ref h0, .int i_e, .ref b]) (n := 4) (Nat.le_of_ble_eq_true rfl)
  rw [lg_entry_eq]
  generalize (lg_sl ([.ref h0, .int i_e, .ref b]) ++ List.replicate (4 - (lg_sl ([.ref h0, .int i_e, .ref b])).length) Slot.unset).toArray = ls at hl ⊢
  have hl : lv_has ls 4 [(0, .ref h0), (1, .int i_e), (2, .ref b)] := hl
  obtain ⟨H, hHe⟩ : ∃ H : Heap, H = s.heap := ⟨_, rfl⟩
  rw [← hHe] at hP
  have hS : va_S A s.heap H [] := by rw [hHe]; exact hS
  refine pw_heap hHe ?_
  refine lv_aload_n hx hb dX10_laysNumbers_0 rfl (lv_at hl 2 rfl) ?_
  have hPc := hP.sub (ws' := [(b, .inl (kZ, 1000, .inl g_b))]) [4] rfl
  have hKc := hK.sub (tys' := [(kZ, .boolean)]) [1] rfl
  have hDc := hD.sub (ws' := [(b, .inl (kZ, 1000, .inl g_b))]) [4] (by decide) rfl
  have hFc := va_free (wc := [(b, .inl (kZ, 1000, .inl g_b))]) hD hS hA [4] rfl
  refine va_callv (va_runS (As := [.ref b]) (rest := []) ⟨hx, hb, hml, hown, hts⟩ (c_X10_clears l D b kZ g_b H.size) (cwS 1 hts g_X10_laysNumbers_X10_clears rfl rfl rfl (by decide +kernel) ⟨Nat.le_of_ble_eq_true rfl, Nat.le_of_ble_eq_true rfl⟩) ⟨fun a U g mk q => by obtain ⟨q0, q1, qP, qK, qD⟩ := q; exact ⟨q0, q1, qP, va_K.moved (u := U) (U := U.calling g mk a) (Vm.Alike.refl U.vm) qK, qD⟩, fun U hU hW => ⟨rfl, by rw [hU], by rw [hU]; exact hPc, va_K.moved hW.alike hKc, hDc.weaken (fun _ _ _ _ => trivial)⟩⟩ rfl rfl hl.1 rfl (lv_room (Nat.le_of_ble_eq_true rfl)) dX10_laysNumbers_1 ⟨Nat.le_of_ble_eq_true rfl, Nat.le_of_ble_eq_true rfl⟩) hS (fun q _ h => hFc q h) hFc (fun u t H1 locs ht hvm hw hB hz1 hk1 hS => ?_)
  obtain ⟨y2, hP1, hK1, hD1⟩ := hB
  rw [ht] at hP1
  have hK1 := va_K.moved hvm.symm hK1
  obtain ⟨hP, hD⟩ := va_join (wr := [(h0, .inr (10, [.ref m_now, .ref m_draft, .ref m_past, .int j_acts, .ref m_images, .ref m_kept, .ref m_tape, .int j_taped, .int j_at, .int j_start, .int j_token, .int j_value, .int j_fault, .int j_place, .int j_latest, .ref m_low, .ref m_high, .ref m_first, .ref m_second, .ref m_lines, .ref m_others, .int j_shiftFirst, .int j_shiftMany, .int j_shiftLow, .int j_shiftHigh])), (m_now, .inl (kI, 192, .inl g_now)), (m_low, .inl (kI, 1000, .inl g_low)), (m_high, .inl (kI, 1000, .inl g_high))]) (w1 := [(b, .inl (kZ, 1000, .inl y2))]) hP hD [4] [0, 1, 2, 3] rfl rfl (by decide) (by decide) hk1 hFc hP1 hD1
  have hK := (hK.sub (tys' := [(kI, .int), (kZ, .boolean)]) [0, 1] rfl).app hK1
  generalize H1 = H at hP hS ⊢
  have hP : va_P D vwCl [(h0, .inr (10, [.ref m_now, .ref m_draft, .ref m_past, .int j_acts, .ref m_images, .ref m_kept, .ref m_tape, .int j_taped, .int j_at, .int j_start, .int j_token, .int j_value, .int j_fault, .int j_place, .int j_latest, .ref m_low, .ref m_high, .ref m_first, .ref m_second, .ref m_lines, .ref m_others, .int j_shiftFirst, .int j_shiftMany, .int j_shiftLow, .int j_shiftHigh])), (m_now, .inl (kI, 192, .inl g_now)), (m_low, .inl (kI, 1000, .inl g_low)), (m_high, .inl (kI, 1000, .inl g_high)), (b, .inl (kZ, 1000, .inl y2))] H := hP
  have hD : va_D A [(h0, .inr (10, [.ref m_now, .ref m_draft, .ref m_past, .int j_acts, .ref m_images, .ref m_kept, .ref m_tape, .int j_taped, .int j_at, .int j_start, .int j_token, .int j_value, .int j_fault, .int j_place, .int j_latest, .ref m_low, .ref m_high, .ref m_first, .ref m_second, .ref m_lines, .ref m_others, .int j_shiftFirst, .int j_shiftMany, .int j_shiftLow, .int j_shiftHigh])), (m_now, .inl (kI, 192, .inl g_now)), (m_low, .inl (kI, 1000, .inl g_low)), (m_high, .inl (kI, 1000, .inl g_high)), (b, .inl (kZ, 1000, .inl y2))] := hD
  have hK : va_K D vwCl [(kI, .int), (kZ, .boolean), (kZ, .boolean)] s := hK
  refine W.widen (k := 0) (n := 0) (Nat.le_of_ble_eq_true rfl) (Nat.le_of_ble_eq_true rfl) ?_
  refine lv_iconst (v := 0) hx hb dX10_laysNumbers_4 (by decide) ?_
  refine lv_istore_n (lv' := [(3, .int 0), (0, .ref h0), (1, .int i_e), (2, .ref b)]) hx hb dX10_laysNumbers_5 rfl hl (by decide) rfl (fun ls hl => ?_)
  have hl9 : lv_has ls 4 [(0, .ref h0), (1, .int i_e), (2, .ref b), (3, .int 0)] := lv_sub hl [1, 2, 3, 0] rfl
  refine pw_loop (fun (zz : Int32 × (Nat → Int32)) H locs ls => match zz with | (v52, f53) => va_P D vwCl [(h0, .inr (10, [.ref m_now, .ref m_draft, .ref m_past, .int j_acts, .ref m_images, .ref m_kept, .ref m_tape, .int j_taped, .int j_at, .int j_start, .int j_token, .int j_value, .int j_fault, .int j_place, .int j_latest, .ref m_low, .ref m_high, .ref m_first, .ref m_second, .ref m_lines, .ref m_others, .int j_shiftFirst, .int j_shiftMany, .int j_shiftLow, .int j_shiftHigh])), (m_now, .inl (kI, 192, .inl g_now)), (m_low, .inl (kI, 1000, .inl g_low)), (m_high, .inl (kI, 1000, .inl g_high)), (b, .inl (kZ, 1000, .inl f53))] H ∧ va_D A [(h0, .inr (10, [.ref m_now, .ref m_draft, .ref m_past, .int j_acts, .ref m_images, .ref m_kept, .ref m_tape, .int j_taped, .int j_at, .int j_start, .int j_token, .int j_value, .int j_fault, .int j_place, .int j_latest, .ref m_low, .ref m_high, .ref m_first, .ref m_second, .ref m_lines, .ref m_others, .int j_shiftFirst, .int j_shiftMany, .int j_shiftLow, .int j_shiftHigh])), (m_now, .inl (kI, 192, .inl g_now)), (m_low, .inl (kI, 1000, .inl g_low)), (m_high, .inl (kI, 1000, .inl g_high)), (b, .inl (kZ, 1000, .inl f53))] ∧ va_S A s.heap H locs ∧ lv_has ls 4 [(0, .ref h0), (1, .int i_e), (2, .ref b), (3, .int v52)] ∧ 0 ≤ v52.toInt) (fun (zz : Int32 × (Nat → Int32))  => match zz with | (v52, f53) => (2147483648 - v52.toInt).toNat) 0 0 (fun (zz : Int32 × (Nat → Int32)) ls => match zz with | (v52, f53) => F0 m 6 ls []) (fun zz H locs ls ih54 hI => ?_) (0, y2) _ _ _ ⟨hP, hD, hS, hl9, (by decide)⟩
  obtain ⟨v52, f53⟩ := zz
  obtain ⟨hP, hD, hS, hl, bv52⟩ := hI
  have bv52 : 0 ≤ v52.toInt := bv52
  have hP : va_P D vwCl [(h0, .inr (10, [.ref m_now, .ref m_draft, .ref m_past, .int j_acts, .ref m_images, .ref m_kept, .ref m_tape, .int j_taped, .int j_at, .int j_start, .int j_token, .int j_value, .int j_fault, .int j_place, .int j_latest, .ref m_low, .ref m_high, .ref m_first, .ref m_second, .ref m_lines, .ref m_others, .int j_shiftFirst, .int j_shiftMany, .int j_shiftLow, .int j_shiftHigh])), (m_now, .inl (kI, 192, .inl g_now)), (m_low, .inl (kI, 1000, .inl g_low)), (m_high, .inl (kI, 1000, .inl g_high)), (b, .inl (kZ, 1000, .inl f53))] H := hP
  have hD : va_D A [(h0, .inr (10, [.ref m_now, .ref m_draft, .ref m_past, .int j_acts, .ref m_images, .ref m_kept, .ref m_tape, .int j_taped, .int j_at, .int j_start, .int j_token, .int j_value, .int j_fault, .int j_place, .int j_latest, .ref m_low, .ref m_high, .ref m_first, .ref m_second, .ref m_lines, .ref m_others, .int j_shiftFirst, .int j_shiftMany, .int j_shiftLow, .int j_shiftHigh])), (m_now, .inl (kI, 192, .inl g_now)), (m_low, .inl (kI, 1000, .inl g_low)), (m_high, .inl (kI, 1000, .inl g_high)), (b, .inl (kZ, 1000, .inl f53))] := hD
  have hK : va_K D vwCl [(kI, .int), (kZ, .boolean), (kZ, .boolean)] s := hK
  have hl : lv_has ls 4 [(0, .ref h0), (1, .int i_e), (2, .ref b), (3, .int v52)] := hl
  refine W.eq (g2 := F0 m 6 ls []) rfl ?_
  refine lv_iload_n hx hb dX10_laysNumbers_6 rfl (lv_at hl 3 rfl) ?_
  refine lv_aload_n hx hb dX10_laysNumbers_7 rfl (lv_at hl 0 rfl) ?_
  refine va_get (D := D) (ci := 10) (v := .ref m_now) (C := RX10) (T := TX10) (N := 25) hx hb hts (fun _ h => List.mem_cons_of_mem _ (List.mem_append_right _ h)) hown hK hP 0 rfl rfl 0 (by decide) (hts (.fieldLink RX10 7 "LineCitesModel" "now" "[I") (List.mem_of_getElem? (i := 5) rfl)) (fun _ h9 => h9) rfl dX10_laysNumbers_8 ?_
  refine lv_iconst (v := 0) hx hb dX10_laysNumbers_11 (by decide) ?_
  refine va_iald hx hb hK hP 1 0 rfl rfl (vp_in_iff.mpr (by decide)) dX10_laysNumbers_12 ?_
  refine lv_topi (fun x55 ex55 => ?_)
  have nx55 : 0 ≤ x55.toInt ∧ x55.toInt ≤ 200 := gV_0 hg_now ex55
  have zx55 := gV_00 ex55
  refine lv_icmp_ge (tgt := 61) hx hb dX10_laysNumbers_13 (by decide) (fun c56 => ?_) (fun c56 => ?_)
  · have nc56 : x55.toInt ≤ v52.toInt := pw_le c56 rfl rfl
    have mc56v52 := pw_max v52
    have mc56x55 := pw_max x55
    have hP9 := hP.sub (ws' := [(h0, .inr (10, [.ref m_now, .ref m_draft, .ref m_past, .int j_acts, .ref m_images, .ref m_kept, .ref m_tape, .int j_taped, .int j_at, .int j_start, .int j_token, .int j_value, .int j_fault, .int j_place, .int j_latest, .ref m_low, .ref m_high, .ref m_first, .ref m_second, .ref m_lines, .ref m_others, .int j_shiftFirst, .int j_shiftMany, .int j_shiftLow, .int j_shiftHigh])), (m_now, .inl (kI, 192, .inl g_now)), (m_low, .inl (kI, 1000, .inl g_low)), (m_high, .inl (kI, 1000, .inl g_high)), (b, .inl (kZ, 1000, .inl f53))]) [0, 1, 2, 3, 4] rfl
    have hD9 := hD.sub (ws' := [(h0, .inr (10, [.ref m_now, .ref m_draft, .ref m_past, .int j_acts, .ref m_images, .ref m_kept, .ref m_tape, .int j_taped, .int j_at, .int j_start, .int j_token, .int j_value, .int j_fault, .int j_place, .int j_latest, .ref m_low, .ref m_high, .ref m_first, .ref m_second, .ref m_lines, .ref m_others, .int j_shiftFirst, .int j_shiftMany, .int j_shiftLow, .int j_shiftHigh])), (m_now, .inl (kI, 192, .inl g_now)), (m_low, .inl (kI, 1000, .inl g_low)), (m_high, .inl (kI, 1000, .inl g_high)), (b, .inl (kZ, 1000, .inl f53))]) [0, 1, 2, 3, 4] (by decide) rfl
    have hK9 := hK.sub (tys' := [(kI, .int), (kZ, .boolean)]) [0, 1] rfl
    refine W.widen (k := 0) (n := 0) (Nat.le_of_ble_eq_true rfl) (Nat.le_of_ble_eq_true rfl) ?_
    exact W.vret hx hb hr (fun t ht hW => ⟨⟨(), rfl, trivial, f53, by rw [ht]; exact hP9, va_K.moved hW.alike hK9, hD9⟩, hS.F ht⟩) hS.2.2 dX10_laysNumbers_61
  · have nc56 : v52.toInt < x55.toInt := pw_nle c56 rfl rfl
    have mc56v52 := pw_max v52
    have mc56x55 := pw_max x55
    refine lv_aload_n hx hb dX10_laysNumbers_16 rfl (lv_at hl 0 rfl) ?_
    refine lv_iload_n hx hb dX10_laysNumbers_17 rfl (lv_at hl 1 rfl) ?_
    refine lv_iload_n hx hb dX10_laysNumbers_18 rfl (lv_at hl 3 rfl) ?_
    have hPc := hP.sub (ws' := [(h0, .inr (10, [.ref m_now, .ref m_draft, .ref m_past, .int j_acts, .ref m_images, .ref m_kept, .ref m_tape, .int j_taped, .int j_at, .int j_start, .int j_token, .int j_value, .int j_fault, .int j_place, .int j_latest, .ref m_low, .ref m_high, .ref m_first, .ref m_second, .ref m_lines, .ref m_others, .int j_shiftFirst, .int j_shiftMany, .int j_shiftLow, .int j_shiftHigh])), (m_low, .inl (kI, 1000, .inl g_low))]) [0, 2] rfl
    have hKc := hK.sub (tys' := [(kI, .int)]) [0] rfl
    refine va_calli (va_runV (As := [.int i_e, .int v52]) (rest := []) ⟨hx, hb, hml, hown, hts⟩ (c_X10_hasNumber l D h0 i_e v52 m_now m_draft m_past j_acts m_images m_kept m_tape j_taped j_at j_start j_token j_value j_fault j_place j_latest m_low m_high m_first m_second m_lines m_others j_shiftFirst j_shiftMany j_shiftLow j_shiftHigh kI g_low (by first | decide | omega) (by first | decide | omega) (by first | decide | omega) (by first | decide | omega) hg_low) (cwV 2 hts g_X10_laysNumbers_X10_hasNumber rfl rfl rfl (by decide +kernel) ⟨Nat.le_of_ble_eq_true rfl, Nat.le_of_ble_eq_true rfl⟩) ⟨fun a U g mk q => by obtain ⟨q0, qP, qK⟩ := q; exact ⟨q0, qP, va_K.moved (u := U) (U := U.calling g mk a) (Vm.Alike.refl U.vm) qK⟩, va_recv hKc hPc (ci := 10) (q0 := 0) rfl rfl, fun U hU hW => ⟨rfl, by rw [hU]; exact hPc, va_K.moved hW.alike hKc⟩⟩ rfl rfl hl.1 rfl (lv_room (Nat.le_of_ble_eq_true rfl)) dX10_laysNumbers_19 ⟨Nat.le_of_ble_eq_true rfl, Nat.le_of_ble_eq_true rfl⟩) hS (fun _ _ h => h.elim) (fun _ h => h.elim) (fun r57 u t H1 locs ht hvm hw hB hz1 hk1 hS => ?_)
    have hP := pw_keep hP (fun q hq => hk1 q hq (fun h => h))
    generalize H1 = H at hP hS ⊢
    refine W.widen (k := 0) (n := 0) (Nat.le_of_ble_eq_true rfl) (Nat.le_of_ble_eq_true rfl) ?_
    have bor57 := hw.1
    have zor57 := pw_boolI bor57
    refine pw_join (fun (f67 : Nat → Int32) H locs ls => va_P D vwCl [(h0, .inr (10, [.ref m_now, .ref m_draft, .ref m_past, .int j_acts, .ref m_images, .ref m_kept, .ref m_tape, .int j_taped, .int j_at, .int j_start, .int j_token, .int j_value, .int j_fault, .int j_place, .int j_latest, .ref m_low, .ref m_high, .ref m_first, .ref m_second, .ref m_lines, .ref m_others, .int j_shiftFirst, .int j_shiftMany, .int j_shiftLow, .int j_shiftHigh])), (m_now, .inl (kI, 192, .inl g_now)), (m_low, .inl (kI, 1000, .inl g_low)), (m_high, .inl (kI, 1000, .inl g_high)), (b, .inl (kZ, 1000, .inl f67))] H ∧ va_D A [(h0, .inr (10, [.ref m_now, .ref m_draft, .ref m_past, .int j_acts, .ref m_images, .ref m_kept, .ref m_tape, .int j_taped, .int j_at, .int j_start, .int j_token, .int j_value, .int j_fault, .int j_place, .int j_latest, .ref m_low, .ref m_high, .ref m_first, .ref m_second, .ref m_lines, .ref m_others, .int j_shiftFirst, .int j_shiftMany, .int j_shiftLow, .int j_shiftHigh])), (m_now, .inl (kI, 192, .inl g_now)), (m_low, .inl (kI, 1000, .inl g_low)), (m_high, .inl (kI, 1000, .inl g_high)), (b, .inl (kZ, 1000, .inl f67))] ∧ va_S A s.heap H locs ∧ lv_has ls 4 [(0, .ref h0), (1, .int i_e), (2, .ref b), (3, .int v52)]) 0 0 (fun (f67 : Nat → Int32) ls => F0 m 55 ls []) (fun f67 H locs ls hI => ?_) (fun hJ68 => ?_)
    ·
      obtain ⟨hP, hD, hS, hl⟩ := hI
      have hP : va_P D vwCl [(h0, .inr (10, [.ref m_now, .ref m_draft, .ref m_past, .int j_acts, .ref m_images, .ref m_kept, .ref m_tape, .int j_taped, .int j_at, .int j_start, .int j_token, .int j_value, .int j_fault, .int j_place, .int j_latest, .ref m_low, .ref m_high, .ref m_first, .ref m_second, .ref m_lines, .ref m_others, .int j_shiftFirst, .int j_shiftMany, .int j_shiftLow, .int j_shiftHigh])), (m_now, .inl (kI, 192, .inl g_now)), (m_low, .inl (kI, 1000, .inl g_low)), (m_high, .inl (kI, 1000, .inl g_high)), (b, .inl (kZ, 1000, .inl f67))] H := hP
      have hD : va_D A [(h0, .inr (10, [.ref m_now, .ref m_draft, .ref m_past, .int j_acts, .ref m_images, .ref m_kept, .ref m_tape, .int j_taped, .int j_at, .int j_start, .int j_token, .int j_value, .int j_fault, .int j_place, .int j_latest, .ref m_low, .ref m_high, .ref m_first, .ref m_second, .ref m_lines, .ref m_others, .int j_shiftFirst, .int j_shiftMany, .int j_shiftLow, .int j_shiftHigh])), (m_now, .inl (kI, 192, .inl g_now)), (m_low, .inl (kI, 1000, .inl g_low)), (m_high, .inl (kI, 1000, .inl g_high)), (b, .inl (kZ, 1000, .inl f67))] := hD
      have hK : va_K D vwCl [(kI, .int), (kZ, .boolean), (kZ, .boolean)] s := hK
      have hl : lv_has ls 4 [(0, .ref h0), (1, .int i_e), (2, .ref b), (3, .int v52)] := hl
      refine W.eq (g2 := F0 m 55 ls []) rfl ?_
      obtain ⟨x69, ex69⟩ : ∃ y : Int32, y = v52 + 1 := ⟨_, rfl⟩
      have tx69 : x69.toInt = v52.toInt + 1 := pw_addX ex69 rfl (by decide) (by omega) (by omega)
      refine lv_iinc (v := x69) (lv' := [(3, .int x69), (0, .ref h0), (1, .int i_e), (2, .ref b)]) hx hb dX10_laysNumbers_55 hl (k := 3) rfl (by rw [ex69]; rfl) (by decide) rfl (fun ls hl => ?_)
      refine lv_goto (tgt := 6) hx hb dX10_laysNumbers_58 (by decide) ?_
      have hP9 : va_P D vwCl [(h0, .inr (10, [.ref m_now, .ref m_draft, .ref m_past, .int j_acts, .ref m_images, .ref m_kept, .ref m_tape, .int j_taped, .int j_at, .int j_start, .int j_token, .int j_value, .int j_fault, .int j_place, .int j_latest, .ref m_low, .ref m_high, .ref m_first, .ref m_second, .ref m_lines, .ref m_others, .int j_shiftFirst, .int j_shiftMany, .int j_shiftLow, .int j_shiftHigh])), (m_now, .inl (kI, 192, .inl g_now)), (m_low, .inl (kI, 1000, .inl g_low)), (m_high, .inl (kI, 1000, .inl g_high)), (b, .inl (kZ, 1000, .inl f67))] H := hP.sub [0, 1, 2, 3, 4] rfl
      have hD9 : va_D A [(h0, .inr (10, [.ref m_now, .ref m_draft, .ref m_past, .int j_acts, .ref m_images, .ref m_kept, .ref m_tape, .int j_taped, .int j_at, .int j_start, .int j_token, .int j_value, .int j_fault, .int j_place, .int j_latest, .ref m_low, .ref m_high, .ref m_first, .ref m_second, .ref m_lines, .ref m_others, .int j_shiftFirst, .int j_shiftMany, .int j_shiftLow, .int j_shiftHigh])), (m_now, .inl (kI, 192, .inl g_now)), (m_low, .inl (kI, 1000, .inl g_low)), (m_high, .inl (kI, 1000, .inl g_high)), (b, .inl (kZ, 1000, .inl f67))] := hD.sub [0, 1, 2, 3, 4] (by decide) rfl
      have hl9 : lv_has ls 4 [(0, .ref h0), (1, .int i_e), (2, .ref b), (3, .int x69)] := lv_sub hl [1, 2, 3, 0] rfl
      refine W.widen (k := 0) (n := 0) (Nat.le_of_ble_eq_true rfl) (Nat.le_of_ble_eq_true rfl) ?_
      exact ih54 (x69, f67) _ _ _ (pw_up ex69 (by omega)) ⟨hP9, hD9, hS, hl9, (pw_upge ex69 (by omega) (by omega))⟩
    ·
      refine lv_if_eq (tgt := 55) hx hb dX10_laysNumbers_22 (by decide) (fun c70 => ?_) (fun c70 => ?_)
      · have nc70 : r57.toInt = 0 := pw_eq c70 rfl (by decide)
        have hP9 : va_P D vwCl [(h0, .inr (10, [.ref m_now, .ref m_draft, .ref m_past, .int j_acts, .ref m_images, .ref m_kept, .ref m_tape, .int j_taped, .int j_at, .int j_start, .int j_token, .int j_value, .int j_fault, .int j_place, .int j_latest, .ref m_low, .ref m_high, .ref m_first, .ref m_second, .ref m_lines, .ref m_others, .int j_shiftFirst, .int j_shiftMany, .int j_shiftLow, .int j_shiftHigh])), (m_now, .inl (kI, 192, .inl g_now)), (m_low, .inl (kI, 1000, .inl g_low)), (m_high, .inl (kI, 1000, .inl g_high)), (b, .inl (kZ, 1000, .inl f53))] H := hP.sub [0, 1, 2, 3, 4] rfl
        have hD9 : va_D A [(h0, .inr (10, [.ref m_now, .ref m_draft, .ref m_past, .int j_acts, .ref m_images, .ref m_kept, .ref m_tape, .int j_taped, .int j_at, .int j_start, .int j_token, .int j_value, .int j_fault, .int j_place, .int j_latest, .ref m_low, .ref m_high, .ref m_first, .ref m_second, .ref m_lines, .ref m_others, .int j_shiftFirst, .int j_shiftMany, .int j_shiftLow, .int j_shiftHigh])), (m_now, .inl (kI, 192, .inl g_now)), (m_low, .inl (kI, 1000, .inl g_low)), (m_high, .inl (kI, 1000, .inl g_high)), (b, .inl (kZ, 1000, .inl f53))] := hD.sub [0, 1, 2, 3, 4] (by decide) rfl
        have hl9 : lv_has ls 4 [(0, .ref h0), (1, .int i_e), (2, .ref b), (3, .int v52)] := lv_sub hl [0, 1, 2, 3] rfl
        refine W.widen (k := 0) (n := 0) (Nat.le_of_ble_eq_true rfl) (Nat.le_of_ble_eq_true rfl) ?_
        exact hJ68 f53 _ _ _ ⟨hP9, hD9, hS, hl9⟩
      · have nc70 : r57.toInt ≠ 0 := pw_ne c70 rfl (by decide)
        refine lv_aload_n hx hb dX10_laysNumbers_25 rfl (lv_at hl 2 rfl) ?_
        refine lv_aload_n hx hb dX10_laysNumbers_26 rfl (lv_at hl 0 rfl) ?_
        refine va_get (D := D) (ci := 10) (v := .ref m_low) (C := RX10) (T := TX10) (N := 25) hx hb hts (fun _ h => List.mem_cons_of_mem _ (List.mem_append_right _ h)) hown hK hP 0 rfl rfl 15 (by decide) (hts (.fieldLink RX10 29 "LineCitesModel" "low" "[I") (List.mem_of_getElem? (i := 10) rfl)) (fun _ h9 => h9) rfl dX10_laysNumbers_27 ?_
        refine lv_sipush (v := 200) hx hb dX10_laysNumbers_30 (by decide) ?_
        refine lv_iload_n hx hb dX10_laysNumbers_33 rfl (lv_at hl 1 rfl) ?_
        refine lv_imul hx hb dX10_laysNumbers_34 ?_
        refine lv_topi (fun x71 ex71 => ?_)
        have tx71 : x71.toInt = 200 * i_e.toInt := pw_mulX ex71 (by decide) rfl (by omega) (by omega)
        refine lv_iload_n hx hb dX10_laysNumbers_35 rfl (lv_at hl 3 rfl) ?_
        refine lv_iadd hx hb dX10_laysNumbers_36 ?_
        refine lv_topi (fun x72 ex72 => ?_)
        have tx72 : x72.toInt = x71.toInt + v52.toInt := pw_addX ex72 rfl rfl (by omega) (by omega)
        refine va_iald hx hb hK hP 2 0 rfl rfl (vp_in_iff.mpr ⟨by omega, by omega⟩) dX10_laysNumbers_37 ?_
        refine lv_topi (fun x73 ex73 => ?_)
        have nx73 : 0 ≤ x73.toInt ∧ x73.toInt ≤ 999 := bP_at hg_low ex73
        refine lv_iconst (v := 1) hx hb dX10_laysNumbers_38 (by decide) ?_
        refine va_zast hx hb hK hP hD hS 4 1 rfl rfl (vp_in_iff.mpr ⟨by omega, by omega⟩) dX10_laysNumbers_39 (fun H locs hP hD hS => ?_)
        obtain ⟨g74, eg74⟩ : ∃ g : Nat → Int32, g = upd f53 (x73 : Int32).toNatClampNeg (vp_nar .boolean 1) := ⟨_, rfl⟩
        have hP : va_P D vwCl [(h0, .inr (10, [.ref m_now, .ref m_draft, .ref m_past, .int j_acts, .ref m_images, .ref m_kept, .ref m_tape, .int j_taped, .int j_at, .int j_start, .int j_token, .int j_value, .int j_fault, .int j_place, .int j_latest, .ref m_low, .ref m_high, .ref m_first, .ref m_second, .ref m_lines, .ref m_others, .int j_shiftFirst, .int j_shiftMany, .int j_shiftLow, .int j_shiftHigh])), (m_now, .inl (kI, 192, .inl g_now)), (m_low, .inl (kI, 1000, .inl g_low)), (m_high, .inl (kI, 1000, .inl g_high)), (b, .inl (kZ, 1000, .inl (upd f53 (x73 : Int32).toNatClampNeg (vp_nar .boolean 1))))] H := hP
        have hD : va_D A [(h0, .inr (10, [.ref m_now, .ref m_draft, .ref m_past, .int j_acts, .ref m_images, .ref m_kept, .ref m_tape, .int j_taped, .int j_at, .int j_start, .int j_token, .int j_value, .int j_fault, .int j_place, .int j_latest, .ref m_low, .ref m_high, .ref m_first, .ref m_second, .ref m_lines, .ref m_others, .int j_shiftFirst, .int j_shiftMany, .int j_shiftLow, .int j_shiftHigh])), (m_now, .inl (kI, 192, .inl g_now)), (m_low, .inl (kI, 1000, .inl g_low)), (m_high, .inl (kI, 1000, .inl g_high)), (b, .inl (kZ, 1000, .inl (upd f53 (x73 : Int32).toNatClampNeg (vp_nar .boolean 1))))] := hD
        have hK : va_K D vwCl [(kI, .int), (kZ, .boolean), (kZ, .boolean)] s := hK
        rw [← eg74] at hP hD
        refine lv_aload_n hx hb dX10_laysNumbers_40 rfl (lv_at hl 2 rfl) ?_
        refine lv_aload_n hx hb dX10_laysNumbers_41 rfl (lv_at hl 0 rfl) ?_
        refine va_get (D := D) (ci := 10) (v := .ref m_high) (C := RX10) (T := TX10) (N := 25) hx hb hts (fun _ h => List.mem_cons_of_mem _ (List.mem_append_right _ h)) hown hK hP 0 rfl rfl 16 (by decide) (hts (.fieldLink RX10 32 "LineCitesModel" "high" "[I") (List.mem_of_getElem? (i := 11) rfl)) (fun _ h9 => h9) rfl dX10_laysNumbers_42 ?_
        refine lv_sipush (v := 200) hx hb dX10_laysNumbers_45 (by decide) ?_
        refine lv_iload_n hx hb dX10_laysNumbers_48 rfl (lv_at hl 1 rfl) ?_
        refine lv_imul hx hb dX10_laysNumbers_49 ?_
        refine lv_topi (fun x75 ex75 => ?_)
        have tx75 : x75.toInt = 200 * i_e.toInt := pw_mulX ex75 (by decide) rfl (by omega) (by omega)
        refine lv_iload_n hx hb dX10_laysNumbers_50 rfl (lv_at hl 3 rfl) ?_
        refine lv_iadd hx hb dX10_laysNumbers_51 ?_
        refine lv_topi (fun x76 ex76 => ?_)
        have tx76 : x76.toInt = x75.toInt + v52.toInt := pw_addX ex76 rfl rfl (by omega) (by omega)
        refine va_iald hx hb hK hP 3 0 rfl rfl (vp_in_iff.mpr ⟨by omega, by omega⟩) dX10_laysNumbers_52 ?_
        refine lv_topi (fun x77 ex77 => ?_)
        have nx77 : 0 ≤ x77.toInt ∧ x77.toInt ≤ 999 := bP_at hg_high ex77
        refine lv_iconst (v := 1) hx hb dX10_laysNumbers_53 (by decide) ?_
        refine va_zast hx hb hK hP hD hS 4 1 rfl rfl (vp_in_iff.mpr ⟨by omega, by omega⟩) dX10_laysNumbers_54 (fun H locs hP hD hS => ?_)
        obtain ⟨g78, eg78⟩ : ∃ g : Nat → Int32, g = upd g74 (x77 : Int32).toNatClampNeg (vp_nar .boolean 1) := ⟨_, rfl⟩
        have hP : va_P D vwCl [(h0, .inr (10, [.ref m_now, .ref m_draft, .ref m_past, .int j_acts, .ref m_images, .ref m_kept, .ref m_tape, .int j_taped, .int j_at, .int j_start, .int j_token, .int j_value, .int j_fault, .int j_place, .int j_latest, .ref m_low, .ref m_high, .ref m_first, .ref m_second, .ref m_lines, .ref m_others, .int j_shiftFirst, .int j_shiftMany, .int j_shiftLow, .int j_shiftHigh])), (m_now, .inl (kI, 192, .inl g_now)), (m_low, .inl (kI, 1000, .inl g_low)), (m_high, .inl (kI, 1000, .inl g_high)), (b, .inl (kZ, 1000, .inl (upd g74 (x77 : Int32).toNatClampNeg (vp_nar .boolean 1))))] H := hP
        have hD : va_D A [(h0, .inr (10, [.ref m_now, .ref m_draft, .ref m_past, .int j_acts, .ref m_images, .ref m_kept, .ref m_tape, .int j_taped, .int j_at, .int j_start, .int j_token, .int j_value, .int j_fault, .int j_place, .int j_latest, .ref m_low, .ref m_high, .ref m_first, .ref m_second, .ref m_lines, .ref m_others, .int j_shiftFirst, .int j_shiftMany, .int j_shiftLow, .int j_shiftHigh])), (m_now, .inl (kI, 192, .inl g_now)), (m_low, .inl (kI, 1000, .inl g_low)), (m_high, .inl (kI, 1000, .inl g_high)), (b, .inl (kZ, 1000, .inl (upd g74 (x77 : Int32).toNatClampNeg (vp_nar .boolean 1))))] := hD
        have hK : va_K D vwCl [(kI, .int), (kZ, .boolean), (kZ, .boolean)] s := hK
        rw [← eg78] at hP hD
        have hP9 : va_P D vwCl [(h0, .inr (10, [.ref m_now, .ref m_draft, .ref m_past, .int j_acts, .ref m_images, .ref m_kept, .ref m_tape, .int j_taped, .int j_at, .int j_start, .int j_token, .int j_value, .int j_fault, .int j_place, .int j_latest, .ref m_low, .ref m_high, .ref m_first, .ref m_second, .ref m_lines, .ref m_others, .int j_shiftFirst, .int j_shiftMany, .int j_shiftLow, .int j_shiftHigh])), (m_now, .inl (kI, 192, .inl g_now)), (m_low, .inl (kI, 1000, .inl g_low)), (m_high, .inl (kI, 1000, .inl g_high)), (b, .inl (kZ, 1000, .inl g78))] H := hP.sub [0, 1, 2, 3, 4] rfl
        have hD9 : va_D A [(h0, .inr (10, [.ref m_now, .ref m_draft, .ref m_past, .int j_acts, .ref m_images, .ref m_kept, .ref m_tape, .int j_taped, .int j_at, .int j_start, .int j_token, .int j_value, .int j_fault, .int j_place, .int j_latest, .ref m_low, .ref m_high, .ref m_first, .ref m_second, .ref m_lines, .ref m_others, .int j_shiftFirst, .int j_shiftMany, .int j_shiftLow, .int j_shiftHigh])), (m_now, .inl (kI, 192, .inl g_now)), (m_low, .inl (kI, 1000, .inl g_low)), (m_high, .inl (kI, 1000, .inl g_high)), (b, .inl (kZ, 1000, .inl g78))] := hD.sub [0, 1, 2, 3, 4] (by decide) rfl
        have hl9 : lv_has ls 4 [(0, .ref h0), (1, .int i_e), (2, .ref b), (3, .int v52)] := lv_sub hl [0, 1, 2, 3] rfl
        refine W.widen (k := 0) (n := 0) (Nat.le_of_ble_eq_true rfl) (Nat.le_of_ble_eq_true rfl) ?_
        exact hJ68 g78 _ _ _ ⟨hP9, hD9, hS, hl9⟩
def w_X10_linesWith : List Cond := .code yX10_linesWith cX10_linesWith 4 (some .int) :: ([.fieldLink RX10 7 "LineCitesModel" "now" "[I", .methodLink RX10 73 yX10_hasNumber, .instanceMethod yX10_hasNumber, .selects RX10 yX10_hasNumber yX10_hasNumber, .initialized RX10, .code yX10_hasNumber cX10_hasNumber 3 (some .boolean), .fieldLink RX10 29 "LineCitesModel" "low" "[I"] ++ wsX100)
set_option maxRecDepth 20000 in
theorem g_X10_linesWith_X10_hasNumber : GoodIn w_X10_linesWith (wsV RX10 73 RX10 yX10_hasNumber w_X10_hasNumber) := goodIn_r _ [2, 3, 4, 5, 6, 7, 8, 9, 10, 11, 12, 13, 14, 15, 16, 17, 18, 19, 20, 21, 22, 23, 24, 25, 26, 27, 28, 29, 30, 31, 32] rfl (by decide +kernel)
set_option maxHeartbeats 4000000 in
set_option maxRecDepth 100000 in
theorem c_X10_linesWith (l : Launch) (D : va_G) (h0 : Nat) (i_e : Int32) (m_now : Nat) (m_draft : Nat) (m_past : Nat) (j_acts : Int32) (m_images : Nat) (m_kept : Nat) (m_tape : Nat) (j_taped : Int32) (j_at : Int32) (j_start : Int32) (j_token : Int32) (j_value : Int32) (j_fault : Int32) (j_place : Int32) (j_latest : Int32) (m_low : Nat) (m_high : Nat) (m_first : Nat) (m_second : Nat) (m_lines : Nat) (m_others : Nat) (j_shiftFirst : Int32) (j_shiftMany : Int32) (j_shiftLow : Int32) (j_shiftHigh : Int32) (kI : ClassId) (g_now : Nat → Int32) (g_low : Nat → Int32) (h0i_e : 0 ≤ i_e.toInt) (h1i_e : i_e.toInt ≤ 4) (hg_now : gV g_now) (hg_low : bP g_low) : Met l yX10_linesWith w_X10_linesWith ({ frames := 1, cells := 0, slots := 0, locals := 22 }) (va_Pc [.ref h0, .int i_e] (fun U => va_P D vwCl [(h0, .inr (10, [.ref m_now, .ref m_draft, .ref m_past, .int j_acts, .ref m_images, .ref m_kept, .ref m_tape, .int j_taped, .int j_at, .int j_start, .int j_token, .int j_value, .int j_fault, .int j_place, .int j_latest, .ref m_low, .ref m_high, .ref m_first, .ref m_second, .ref m_lines, .ref m_others, .int j_shiftFirst, .int j_shiftMany, .int j_shiftLow, .int j_shiftHigh])), (m_now, .inl (kI, 192, .inl g_now)), (m_low, .inl (kI, 1000, .inl g_low))] U.heap ∧ va_K D vwCl [(kI, .int)] U)) (va_Qi (fun (r : Int32) (_ : Unit) => True) (fun _ _ => True) (fun _ => False)) 0 0 (fun _ => False) := by
  refine Met.ofW (cc := cX10_linesWith) (maxL := 4) (ret := (some .int)) (by decide) rfl ?_
  intro p e s m args below meth c s₁ B hml hv
  obtain ⟨rfl, hP, hK⟩ := hv
  have hx := B.exec
  have hb := B.bytes
  have hr := B.returns
  have hts := atoms_spec (ws := w_X10_linesWith) B.pre
  have hown : s.vm.findClass RX10 = some m.cls := findClass_of_methodNamed B.named
  have hlocks := B.notSynchronized
  have hS : va_S (fun _ : Nat => False) s.heap s.heap [] := va_S.rf
  have hP : va_P D vwCl [(h0, .inr (10, [.ref m_now, .ref m_draft, .ref m_past, .int j_acts, .ref m_images, .ref m_kept, .ref m_tape, .int j_taped, .int j_at, .int j_start, .int j_token, .int j_value, .int j_fault, .int j_place, .int j_latest, .ref m_low, .ref m_high, .ref m_first, .ref m_second, .ref m_lines, .ref m_others, .int j_shiftFirst, .int j_shiftMany, .int j_shiftLow, .int j_shiftHigh])), (m_now, .inl (kI, 192, .inl g_now)), (m_low, .inl (kI, 1000, .inl g_low))] s.heap := hP
  have hl := lv_entry ([.ref h0, .int i_e]) (n := 4) (Nat.le_of_ble_eq_true rfl)
  rw [lg_entry_eq]
  generalize (lg_sl ([.ref h0, .int i_e]) ++ List.replicate (4 - (lg_sl ([.ref h0, .int i_e])).length) Slot.unset).toArray = ls at hl ⊢
  have hl : lv_has ls 4 [(0, .ref h0), (1, .int i_e)] := hl
  obtain ⟨H, hHe⟩ : ∃ H : Heap, H = s.heap := ⟨_, rfl⟩
  rw [← hHe] at hP
  have hS : va_S (fun _ : Nat => False) s.heap H [] := by rw [hHe]; exact hS
  refine pw_heap hHe ?_
  refine lv_iconst (v := 0) hx hb dX10_linesWith_0 (by decide) ?_
  refine lv_istore_n (lv' := [(2, .int 0), (0, .ref h0), (1, .int i_e)]) hx hb dX10_linesWith_1 rfl hl (by decide) rfl (fun ls hl => ?_)
  refine lv_iconst (v := 0) hx hb dX10_linesWith_2 (by decide) ?_
  refine lv_istore_n (lv' := [(3, .int 0), (2, .int 0), (0, .ref h0), (1, .int i_e)]) hx hb dX10_linesWith_3 rfl hl (by decide) rfl (fun ls hl => ?_)
  have hl9 : lv_has ls 4 [(0, .ref h0), (1, .int i_e), (2, .int 0), (3, .int 0)] := lv_sub hl [2, 3, 1, 0] rfl
  refine pw_loop (fun (zz : Int32 × Int32) H locs ls => match zz with | (v35, v36) => va_P D vwCl [(h0, .inr (10, [.ref m_now, .ref m_draft, .ref m_past, .int j_acts, .ref m_images, .ref m_kept, .ref m_tape, .int j_taped, .int j_at, .int j_start, .int j_token, .int j_value, .int j_fault, .int j_place, .int j_latest, .ref m_low, .ref m_high, .ref m_first, .ref m_second, .ref m_lines, .ref m_others, .int j_shiftFirst, .int j_shiftMany, .int j_shiftLow, .int j_shiftHigh])), (m_now, .inl (kI, 192, .inl g_now)), (m_low, .inl (kI, 1000, .inl g_low))] H ∧ va_S (fun _ : Nat => False) s.heap H locs ∧ lv_has ls 4 [(0, .ref h0), (1, .int i_e), (2, .int v35), (3, .int v36)] ∧ 0 ≤ v36.toInt) (fun (zz : Int32 × Int32)  => match zz with | (v35, v36) => (2147483648 - v36.toInt).toNat) 0 0 (fun (zz : Int32 × Int32) ls => match zz with | (v35, v36) => F0 m 4 ls []) (fun zz H locs ls ih37 hI => ?_) (0, 0) _ _ _ ⟨hP, hS, hl9, (by decide)⟩
  obtain ⟨v35, v36⟩ := zz
  obtain ⟨hP, hS, hl, bv36⟩ := hI
  have bv36 : 0 ≤ v36.toInt := bv36
  have hP : va_P D vwCl [(h0, .inr (10, [.ref m_now, .ref m_draft, .ref m_past, .int j_acts, .ref m_images, .ref m_kept, .ref m_tape, .int j_taped, .int j_at, .int j_start, .int j_token, .int j_value, .int j_fault, .int j_place, .int j_latest, .ref m_low, .ref m_high, .ref m_first, .ref m_second, .ref m_lines, .ref m_others, .int j_shiftFirst, .int j_shiftMany, .int j_shiftLow, .int j_shiftHigh])), (m_now, .inl (kI, 192, .inl g_now)), (m_low, .inl (kI, 1000, .inl g_low))] H := hP
  have hK : va_K D vwCl [(kI, .int)] s := hK
  have hl : lv_has ls 4 [(0, .ref h0), (1, .int i_e), (2, .int v35), (3, .int v36)] := hl
  refine W.eq (g2 := F0 m 4 ls []) rfl ?_
  refine lv_iload_n hx hb dX10_linesWith_4 rfl (lv_at hl 3 rfl) ?_
  refine lv_aload_n hx hb dX10_linesWith_5 rfl (lv_at hl 0 rfl) ?_
  refine va_get (D := D) (ci := 10) (v := .ref m_now) (C := RX10) (T := TX10) (N := 25) hx hb hts (fun _ h => List.mem_cons_of_mem _ (List.mem_append_right _ h)) hown hK hP 0 rfl rfl 0 (by decide) (hts (.fieldLink RX10 7 "LineCitesModel" "now" "[I") (List.mem_of_getElem? (i := 1) rfl)) (fun _ h9 => h9) rfl dX10_linesWith_6 ?_
  refine lv_iconst (v := 0) hx hb dX10_linesWith_9 (by decide) ?_
  refine va_iald hx hb hK hP 1 0 rfl rfl (vp_in_iff.mpr (by decide)) dX10_linesWith_10 ?_
  refine lv_topi (fun x38 ex38 => ?_)
  have nx38 : 0 ≤ x38.toInt ∧ x38.toInt ≤ 200 := gV_0 hg_now ex38
  have zx38 := gV_00 ex38
  refine lv_icmp_ge (tgt := 37) hx hb dX10_linesWith_11 (by decide) (fun c47 => ?_) (fun c47 => ?_)
  · have nc47 : x38.toInt ≤ v36.toInt := pw_le c47 rfl rfl
    have mc47v36 := pw_max v36
    have mc47x38 := pw_max x38
    refine lv_iload_n hx hb dX10_linesWith_37 rfl (lv_at hl 2 rfl) ?_
    exact W.iret (v := v35) hx hb hr (fun t ht hW => ⟨⟨v35, (), rfl, trivial, trivial⟩, hS.F ht⟩) hS.2.2 dX10_linesWith_38
  · have nc47 : v36.toInt < x38.toInt := pw_nle c47 rfl rfl
    have mc47v36 := pw_max v36
    have mc47x38 := pw_max x38
    refine lv_iload_n hx hb dX10_linesWith_14 rfl (lv_at hl 2 rfl) ?_
    refine lv_aload_n hx hb dX10_linesWith_15 rfl (lv_at hl 0 rfl) ?_
    refine lv_iload_n hx hb dX10_linesWith_16 rfl (lv_at hl 1 rfl) ?_
    refine lv_iload_n hx hb dX10_linesWith_17 rfl (lv_at hl 3 rfl) ?_
    have hPc := hP.sub (ws' := [(h0, .inr (10, [.ref m_now, .ref m_draft, .ref m_past, .int j_acts, .ref m_images, .ref m_kept, .ref m_tape, .int j_taped, .int j_at, .int j_start, .int j_token, .int j_value, .int j_fault, .int j_place, .int j_latest, .ref m_low, .ref m_high, .ref m_first, .ref m_second, .ref m_lines, .ref m_others, .int j_shiftFirst, .int j_shiftMany, .int j_shiftLow, .int j_shiftHigh])), (m_low, .inl (kI, 1000, .inl g_low))]) [0, 2] rfl
    have hKc := hK.sub (tys' := [(kI, .int)]) [0] rfl
    refine va_calli (va_runV (As := [.int i_e, .int v36]) (rest := [.int v35]) ⟨hx, hb, hml, hown, hts⟩ (c_X10_hasNumber l D h0 i_e v36 m_now m_draft m_past j_acts m_images m_kept m_tape j_taped j_at j_start j_token j_value j_fault j_place j_latest m_low m_high m_first m_second m_lines m_others j_shiftFirst j_shiftMany j_shiftLow j_shiftHigh kI g_low (by first | decide | omega) (by first | decide | omega) (by first | decide | omega) (by first | decide | omega) hg_low) (cwV 2 hts g_X10_linesWith_X10_hasNumber rfl rfl rfl (by decide +kernel) ⟨Nat.le_of_ble_eq_true rfl, Nat.le_of_ble_eq_true rfl⟩) ⟨fun a U g mk q => by obtain ⟨q0, qP, qK⟩ := q; exact ⟨q0, qP, va_K.moved (u := U) (U := U.calling g mk a) (Vm.Alike.refl U.vm) qK⟩, va_recv hKc hPc (ci := 10) (q0 := 0) rfl rfl, fun U hU hW => ⟨rfl, by rw [hU]; exact hPc, va_K.moved hW.alike hKc⟩⟩ rfl rfl hl.1 rfl (lv_room (Nat.le_of_ble_eq_true rfl)) dX10_linesWith_18 ⟨Nat.le_of_ble_eq_true rfl, Nat.le_of_ble_eq_true rfl⟩) hS (fun _ _ h => h.elim) (fun _ h => h.elim) (fun r48 u t H1 locs ht hvm hw hB hz1 hk1 hS => ?_)
    have hP := pw_keep hP (fun q hq => hk1 q hq (fun h => h))
    generalize H1 = H at hP hS ⊢
    refine W.widen (k := 0) (n := 0) (Nat.le_of_ble_eq_true rfl) (Nat.le_of_ble_eq_true rfl) ?_
    have bor48 := hw.1
    have zor48 := pw_boolI bor48
    refine pw_join (fun (v50 : Int32) H locs ls => va_P D vwCl [(h0, .inr (10, [.ref m_now, .ref m_draft, .ref m_past, .int j_acts, .ref m_images, .ref m_kept, .ref m_tape, .int j_taped, .int j_at, .int j_start, .int j_token, .int j_value, .int j_fault, .int j_place, .int j_latest, .ref m_low, .ref m_high, .ref m_first, .ref m_second, .ref m_lines, .ref m_others, .int j_shiftFirst, .int j_shiftMany, .int j_shiftLow, .int j_shiftHigh])), (m_now, .inl (kI, 192, .inl g_now)), (m_low, .inl (kI, 1000, .inl g_low))] H ∧ va_S (fun _ : Nat => False) s.heap H locs ∧ lv_has ls 4 [(0, .ref h0), (1, .int i_e), (2, .int v35), (3, .int v36)]) 0 0 (fun (v50 : Int32) ls => F0 m 29 ls [.int v50, .int v35]) (fun v50 H locs ls hI => ?_) (fun hJ51 => ?_)
    ·
      obtain ⟨hP, hS, hl⟩ := hI
      have hP : va_P D vwCl [(h0, .inr (10, [.ref m_now, .ref m_draft, .ref m_past, .int j_acts, .ref m_images, .ref m_kept, .ref m_tape, .int j_taped, .int j_at, .int j_start, .int j_token, .int j_value, .int j_fault, .int j_place, .int j_latest, .ref m_low, .ref m_high, .ref m_first, .ref m_second, .ref m_lines, .ref m_others, .int j_shiftFirst, .int j_shiftMany, .int j_shiftLow, .int j_shiftHigh])), (m_now, .inl (kI, 192, .inl g_now)), (m_low, .inl (kI, 1000, .inl g_low))] H := hP
      have hK : va_K D vwCl [(kI, .int)] s := hK
      have hl : lv_has ls 4 [(0, .ref h0), (1, .int i_e), (2, .int v35), (3, .int v36)] := hl
      refine W.eq (g2 := F0 m 29 ls [.int v50, .int v35]) rfl ?_
      refine lv_iadd hx hb dX10_linesWith_29 ?_
      refine lv_topi (fun x52 ex52 => ?_)
      refine lv_istore_n (lv' := [(2, .int x52), (0, .ref h0), (1, .int i_e), (3, .int v36)]) hx hb dX10_linesWith_30 rfl hl (by decide) rfl (fun ls hl => ?_)
      obtain ⟨x53, ex53⟩ : ∃ y : Int32, y = v36 + 1 := ⟨_, rfl⟩
      have tx53 : x53.toInt = v36.toInt + 1 := pw_addX ex53 rfl (by decide) (by omega) (by omega)
      refine lv_iinc (v := x53) (lv' := [(3, .int x53), (2, .int x52), (0, .ref h0), (1, .int i_e)]) hx hb dX10_linesWith_31 hl (k := 3) rfl (by rw [ex53]; rfl) (by decide) rfl (fun ls hl => ?_)
      refine lv_goto (tgt := 4) hx hb dX10_linesWith_34 (by decide) ?_
      have hP9 : va_P D vwCl [(h0, .inr (10, [.ref m_now, .ref m_draft, .ref m_past, .int j_acts, .ref m_images, .ref m_kept, .ref m_tape, .int j_taped, .int j_at, .int j_start, .int j_token, .int j_value, .int j_fault, .int j_place, .int j_latest, .ref m_low, .ref m_high, .ref m_first, .ref m_second, .ref m_lines, .ref m_others, .int j_shiftFirst, .int j_shiftMany, .int j_shiftLow, .int j_shiftHigh])), (m_now, .inl (kI, 192, .inl g_now)), (m_low, .inl (kI, 1000, .inl g_low))] H := hP.sub [0, 1, 2] rfl
      have hl9 : lv_has ls 4 [(0, .ref h0), (1, .int i_e), (2, .int x52), (3, .int x53)] := lv_sub hl [2, 3, 1, 0] rfl
      refine W.widen (k := 0) (n := 0) (Nat.le_of_ble_eq_true rfl) (Nat.le_of_ble_eq_true rfl) ?_
      exact ih37 (x52, x53) _ _ _ (pw_up ex53 (by omega)) ⟨hP9, hS, hl9, (pw_upge ex53 (by omega) (by omega))⟩
    ·
      refine lv_if_eq (tgt := 28) hx hb dX10_linesWith_21 (by decide) (fun c54 => ?_) (fun c54 => ?_)
      · have nc54 : r48.toInt = 0 := pw_eq c54 rfl (by decide)
        refine lv_iconst (v := 0) hx hb dX10_linesWith_28 (by decide) ?_
        have hP9 : va_P D vwCl [(h0, .inr (10, [.ref m_now, .ref m_draft, .ref m_past, .int j_acts, .ref m_images, .ref m_kept, .ref m_tape, .int j_taped, .int j_at, .int j_start, .int j_token, .int j_value, .int j_fault, .int j_place, .int j_latest, .ref m_low, .ref m_high, .ref m_first, .ref m_second, .ref m_lines, .ref m_others, .int j_shiftFirst, .int j_shiftMany, .int j_shiftLow, .int j_shiftHigh])), (m_now, .inl (kI, 192, .inl g_now)), (m_low, .inl (kI, 1000, .inl g_low))] H := hP.sub [0, 1, 2] rfl
        have hl9 : lv_has ls 4 [(0, .ref h0), (1, .int i_e), (2, .int v35), (3, .int v36)] := lv_sub hl [0, 1, 2, 3] rfl
        refine W.widen (k := 0) (n := 0) (Nat.le_of_ble_eq_true rfl) (Nat.le_of_ble_eq_true rfl) ?_
        exact hJ51 0 _ _ _ ⟨hP9, hS, hl9⟩
      · have nc54 : r48.toInt ≠ 0 := pw_ne c54 rfl (by decide)
        refine lv_iconst (v := 1) hx hb dX10_linesWith_24 (by decide) ?_
        refine lv_goto (tgt := 29) hx hb dX10_linesWith_25 (by decide) ?_
        have hP9 : va_P D vwCl [(h0, .inr (10, [.ref m_now, .ref m_draft, .ref m_past, .int j_acts, .ref m_images, .ref m_kept, .ref m_tape, .int j_taped, .int j_at, .int j_start, .int j_token, .int j_value, .int j_fault, .int j_place, .int j_latest, .ref m_low, .ref m_high, .ref m_first, .ref m_second, .ref m_lines, .ref m_others, .int j_shiftFirst, .int j_shiftMany, .int j_shiftLow, .int j_shiftHigh])), (m_now, .inl (kI, 192, .inl g_now)), (m_low, .inl (kI, 1000, .inl g_low))] H := hP.sub [0, 1, 2] rfl
        have hl9 : lv_has ls 4 [(0, .ref h0), (1, .int i_e), (2, .int v35), (3, .int v36)] := lv_sub hl [0, 1, 2, 3] rfl
        refine W.widen (k := 0) (n := 0) (Nat.le_of_ble_eq_true rfl) (Nat.le_of_ble_eq_true rfl) ?_
        exact hJ51 1 _ _ _ ⟨hP9, hS, hl9⟩
def w_X10_meantBy : List Cond := .code yX10_meantBy cX10_meantBy 8 (some .int) :: ([.constant RX10 61 (-1000000), .fieldLink RX10 7 "LineCitesModel" "now" "[I", .methodLink RX10 69 yX10_isMeant, .instanceMethod yX10_isMeant, .selects RX10 yX10_isMeant yX10_isMeant, .initialized RX10, .code yX10_isMeant cX10_isMeant 4 (some .boolean), .fieldLink RX10 29 "LineCitesModel" "low" "[I", .fieldLink RX10 32 "LineCitesModel" "high" "[I"] ++ wsX100)
set_option maxRecDepth 20000 in
theorem g_X10_meantBy_X10_isMeant : GoodIn w_X10_meantBy (wsV RX10 69 RX10 yX10_isMeant w_X10_isMeant) := goodIn_r _ [3, 4, 5, 6, 7, 8, 9, 10, 11, 12, 13, 14, 15, 16, 17, 18, 19, 20, 21, 22, 23, 24, 25, 26, 27, 28, 29, 30, 31, 32, 33, 34] rfl (by decide +kernel)
set_option maxHeartbeats 4000000 in
set_option maxRecDepth 100000 in
theorem c_X10_meantBy (l : Launch) (D : va_G) (h0 : Nat) (i_e : Int32) (i_n : Int32) (i_w : Int32) (m_now : Nat) (m_draft : Nat) (m_past : Nat) (j_acts : Int32) (m_images : Nat) (m_kept : Nat) (m_tape : Nat) (j_taped : Int32) (j_at : Int32) (j_start : Int32) (j_token : Int32) (j_value : Int32) (j_fault : Int32) (j_place : Int32) (j_latest : Int32) (m_low : Nat) (m_high : Nat) (m_first : Nat) (m_second : Nat) (m_lines : Nat) (m_others : Nat) (j_shiftFirst : Int32) (j_shiftMany : Int32) (j_shiftLow : Int32) (j_shiftHigh : Int32) (kI : ClassId) (g_now : Nat → Int32) (g_low : Nat → Int32) (g_high : Nat → Int32) (h0i_e : 0 ≤ i_e.toInt) (h1i_e : i_e.toInt ≤ 4) (hg_now : gV g_now) (hg_low : bP g_low) (hg_high : bP g_high) : Met l yX10_meantBy w_X10_meantBy ({ frames := 1, cells := 0, slots := 0, locals := 23 }) (va_Pc [.ref h0, .int i_e, .int i_n, .int i_w] (fun U => va_P D vwCl [(h0, .inr (10, [.ref m_now, .ref m_draft, .ref m_past, .int j_acts, .ref m_images, .ref m_kept, .ref m_tape, .int j_taped, .int j_at, .int j_start, .int j_token, .int j_value, .int j_fault, .int j_place, .int j_latest, .ref m_low, .ref m_high, .ref m_first, .ref m_second, .ref m_lines, .ref m_others, .int j_shiftFirst, .int j_shiftMany, .int j_shiftLow, .int j_shiftHigh])), (m_now, .inl (kI, 192, .inl g_now)), (m_low, .inl (kI, 1000, .inl g_low)), (m_high, .inl (kI, 1000, .inl g_high))] U.heap ∧ va_K D vwCl [(kI, .int)] U)) (va_Qi (fun (r : Int32) (_ : Unit) => True) (fun _ _ => True) (fun _ => False)) 0 0 (fun _ => False) := by
  refine Met.ofW (cc := cX10_meantBy) (maxL := 8) (ret := (some .int)) (by decide) rfl ?_
  intro p e s m args below meth c s₁ B hml hv
  obtain ⟨rfl, hP, hK⟩ := hv
  have hx := B.exec
  have hb := B.bytes
  have hr := B.returns
  have hts := atoms_spec (ws := w_X10_meantBy) B.pre
  have hown : s.vm.findClass RX10 = some m.cls := findClass_of_methodNamed B.named
  have hlocks := B.notSynchronized
  have hS : va_S (fun _ : Nat => False) s.heap s.heap [] := va_S.rf
  have hP : va_P D vwCl [(h0, .inr (10, [.ref m_now, .ref m_draft, .ref m_past, .int j_acts, .ref m_images, .ref m_kept, .ref m_tape, .int j_taped, .int j_at, .int j_start, .int j_token, .int j_value, .int j_fault, .int j_place, .int j_latest, .ref m_low, .ref m_high, .ref m_first, .ref m_second, .ref m_lines, .ref m_others, .int j_shiftFirst, .int j_shiftMany, .int j_shiftLow, .int j_shiftHigh])), (m_now, .inl (kI, 192, .inl g_now)), (m_low, .inl (kI, 1000, .inl g_low)), (m_high, .inl (kI, 1000, .inl g_high))] s.heap := hP
  have hl := lv_entry ([.ref h0, .int i_e, .int i_n, .int i_w]) (n := 8) (Nat.le_of_ble_eq_true rfl)
  rw [lg_entry_eq]
  generalize (lg_sl ([.ref h0, .int i_e, .int i_n, .int i_w]) ++ List.replicate (8 - (lg_sl ([.ref h0, .int i_e, .int i_n, .int i_w])).length) Slot.unset).toArray = ls at hl ⊢
  have hl : lv_has ls 8 [(0, .ref h0), (1, .int i_e), (2, .int i_n), (3, .int i_w)] := hl
  obtain ⟨H, hHe⟩ : ∃ H : Heap, H = s.heap := ⟨_, rfl⟩
  rw [← hHe] at hP
  have hS : va_S (fun _ : Nat => False) s.heap H [] := by rw [hHe]; exact hS
  refine pw_heap hHe ?_
  refine lv_iconst (v := 0) hx hb dX10_meantBy_0 (by decide) ?_
  refine lv_istore (lv' := [(4, .int 0), (0, .ref h0), (1, .int i_e), (2, .int i_n), (3, .int i_w)]) hx hb dX10_meantBy_1 hl (by decide) rfl (fun ls hl => ?_)
  refine lv_ldc hx hb hown (hts (.constant RX10 61 (-1000000)) (List.mem_of_getElem? (i := 1) rfl)) dX10_meantBy_3 ?_
  refine lv_istore (lv' := [(5, .int (-1000000)), (4, .int 0), (0, .ref h0), (1, .int i_e), (2, .int i_n), (3, .int i_w)]) hx hb dX10_meantBy_5 hl (by decide) rfl (fun ls hl => ?_)
  refine lv_ldc hx hb hown (hts (.constant RX10 61 (-1000000)) (List.mem_of_getElem? (i := 1) rfl)) dX10_meantBy_7 ?_
  refine lv_istore (lv' := [(6, .int (-1000000)), (5, .int (-1000000)), (4, .int 0), (0, .ref h0), (1, .int i_e), (2, .int i_n), (3, .int i_w)]) hx hb dX10_meantBy_9 hl (by decide) rfl (fun ls hl => ?_)
  refine lv_iconst (v := 0) hx hb dX10_meantBy_11 (by decide) ?_
  refine lv_istore (lv' := [(7, .int 0), (6, .int (-1000000)), (5, .int (-1000000)), (4, .int 0), (0, .ref h0), (1, .int i_e), (2, .int i_n), (3, .int i_w)]) hx hb dX10_meantBy_12 hl (by decide) rfl (fun ls hl => ?_)
  have hl9 : lv_has ls 8 [(0, .ref h0), (1, .int i_e), (2, .int i_n), (3, .int i_w), (4, .int 0), (5, .int (-1000000)), (6, .int (-1000000)), (7, .int 0)] := lv_sub hl [4, 5, 6, 7, 3, 2, 1, 0] rfl
  refine pw_loop (fun (zz : Int32 × Int32 × Int32 × Int32) H locs ls => match zz with | (v69, v70, v71, v72) => va_P D vwCl [(h0, .inr (10, [.ref m_now, .ref m_draft, .ref m_past, .int j_acts, .ref m_images, .ref m_kept, .ref m_tape, .int j_taped, .int j_at, .int j_start, .int j_token, .int j_value, .int j_fault, .int j_place, .int j_latest, .ref m_low, .ref m_high, .ref m_first, .ref m_second, .ref m_lines, .ref m_others, .int j_shiftFirst, .int j_shiftMany, .int j_shiftLow, .int j_shiftHigh])), (m_now, .inl (kI, 192, .inl g_now)), (m_low, .inl (kI, 1000, .inl g_low)), (m_high, .inl (kI, 1000, .inl g_high))] H ∧ va_S (fun _ : Nat => False) s.heap H locs ∧ lv_has ls 8 [(0, .ref h0), (1, .int i_e), (2, .int i_n), (3, .int i_w), (4, .int v69), (5, .int v70), (6, .int v71), (7, .int v72)] ∧ 0 ≤ v72.toInt) (fun (zz : Int32 × Int32 × Int32 × Int32)  => match zz with | (v69, v70, v71, v72) => (2147483648 - v72.toInt).toNat) 0 0 (fun (zz : Int32 × Int32 × Int32 × Int32) ls => match zz with | (v69, v70, v71, v72) => F0 m 14 ls []) (fun zz H locs ls ih73 hI => ?_) (0, (-1000000), (-1000000), 0) _ _ _ ⟨hP, hS, hl9, (by decide)⟩
  obtain ⟨v69, v70, v71, v72⟩ := zz
  obtain ⟨hP, hS, hl, bv72⟩ := hI
  have bv72 : 0 ≤ v72.toInt := bv72
  have hP : va_P D vwCl [(h0, .inr (10, [.ref m_now, .ref m_draft, .ref m_past, .int j_acts, .ref m_images, .ref m_kept, .ref m_tape, .int j_taped, .int j_at, .int j_start, .int j_token, .int j_value, .int j_fault, .int j_place, .int j_latest, .ref m_low, .ref m_high, .ref m_first, .ref m_second, .ref m_lines, .ref m_others, .int j_shiftFirst, .int j_shiftMany, .int j_shiftLow, .int j_shiftHigh])), (m_now, .inl (kI, 192, .inl g_now)), (m_low, .inl (kI, 1000, .inl g_low)), (m_high, .inl (kI, 1000, .inl g_high))] H := hP
  have hK : va_K D vwCl [(kI, .int)] s := hK
  have hl : lv_has ls 8 [(0, .ref h0), (1, .int i_e), (2, .int i_n), (3, .int i_w), (4, .int v69), (5, .int v70), (6, .int v71), (7, .int v72)] := hl
  refine W.eq (g2 := F0 m 14 ls []) rfl ?_
  refine lv_iload hx hb dX10_meantBy_14 (lv_at hl 7 rfl) ?_
  refine lv_aload_n hx hb dX10_meantBy_16 rfl (lv_at hl 0 rfl) ?_
  refine va_get (D := D) (ci := 10) (v := .ref m_now) (C := RX10) (T := TX10) (N := 25) hx hb hts (fun _ h => List.mem_cons_of_mem _ (List.mem_append_right _ h)) hown hK hP 0 rfl rfl 0 (by decide) (hts (.fieldLink RX10 7 "LineCitesModel" "now" "[I") (List.mem_of_getElem? (i := 2) rfl)) (fun _ h9 => h9) rfl dX10_meantBy_17 ?_
  refine lv_iconst (v := 0) hx hb dX10_meantBy_20 (by decide) ?_
  refine va_iald hx hb hK hP 1 0 rfl rfl (vp_in_iff.mpr (by decide)) dX10_meantBy_21 ?_
  refine lv_topi (fun x74 ex74 => ?_)
  have nx74 : 0 ≤ x74.toInt ∧ x74.toInt ≤ 200 := gV_0 hg_now ex74
  have zx74 := gV_00 ex74
  refine lv_icmp_ge (tgt := 63) hx hb dX10_meantBy_22 (by decide) (fun c94 => ?_) (fun c94 => ?_)
  · have nc94 : x74.toInt ≤ v72.toInt := pw_le c94 rfl rfl
    have mc94v72 := pw_max v72
    have mc94x74 := pw_max x74
    refine lv_iload_n hx hb dX10_meantBy_63 rfl (lv_at hl 3 rfl) ?_
    refine lv_if_ne (tgt := 72) hx hb dX10_meantBy_64 (by decide) (fun c95 => ?_) (fun c95 => ?_)
    · have nc95 : i_w.toInt ≠ 0 := pw_ne c95 rfl (by decide)
      refine lv_iload_n hx hb dX10_meantBy_72 rfl (lv_at hl 3 rfl) ?_
      refine lv_iconst (v := 1) hx hb dX10_meantBy_73 (by decide) ?_
      refine lv_icmp_ne (tgt := 82) hx hb dX10_meantBy_74 (by decide) (fun c96 => ?_) (fun c96 => ?_)
      · have nc96 : i_w.toInt ≠ 1 := pw_ne c96 rfl (by decide)
        refine lv_iload hx hb dX10_meantBy_82 (lv_at hl 6 rfl) ?_
        exact W.iret (v := v71) hx hb hr (fun t ht hW => ⟨⟨v71, (), rfl, trivial, trivial⟩, hS.F ht⟩) hS.2.2 dX10_meantBy_84
      · have nc96 : i_w.toInt = 1 := pw_eq c96 rfl (by decide)
        refine lv_iload hx hb dX10_meantBy_77 (lv_at hl 5 rfl) ?_
        refine lv_goto (tgt := 84) hx hb dX10_meantBy_79 (by decide) ?_
        exact W.iret (v := v70) hx hb hr (fun t ht hW => ⟨⟨v70, (), rfl, trivial, trivial⟩, hS.F ht⟩) hS.2.2 dX10_meantBy_84
    · have nc95 : i_w.toInt = 0 := pw_eq c95 rfl (by decide)
      refine lv_iload hx hb dX10_meantBy_67 (lv_at hl 4 rfl) ?_
      refine lv_goto (tgt := 84) hx hb dX10_meantBy_69 (by decide) ?_
      exact W.iret (v := v69) hx hb hr (fun t ht hW => ⟨⟨v69, (), rfl, trivial, trivial⟩, hS.F ht⟩) hS.2.2 dX10_meantBy_84
  · have nc94 : v72.toInt < x74.toInt := pw_nle c94 rfl rfl
    have mc94v72 := pw_max v72
    have mc94x74 := pw_max x74
    refine lv_aload_n hx hb dX10_meantBy_25 rfl (lv_at hl 0 rfl) ?_
    refine lv_iload_n hx hb dX10_meantBy_26 rfl (lv_at hl 1 rfl) ?_
    refine lv_iload_n hx hb dX10_meantBy_27 rfl (lv_at hl 2 rfl) ?_
    refine lv_iload hx hb dX10_meantBy_28 (lv_at hl 7 rfl) ?_
    have hPc := hP.sub (ws' := [(h0, .inr (10, [.ref m_now, .ref m_draft, .ref m_past, .int j_acts, .ref m_images, .ref m_kept, .ref m_tape, .int j_taped, .int j_at, .int j_start, .int j_token, .int j_value, .int j_fault, .int j_place, .int j_latest, .ref m_low, .ref m_high, .ref m_first, .ref m_second, .ref m_lines, .ref m_others, .int j_shiftFirst, .int j_shiftMany, .int j_shiftLow, .int j_shiftHigh])), (m_low, .inl (kI, 1000, .inl g_low)), (m_high, .inl (kI, 1000, .inl g_high))]) [0, 2, 3] rfl
    have hKc := hK.sub (tys' := [(kI, .int)]) [0] rfl
    refine va_calli (va_runV (As := [.int i_e, .int i_n, .int v72]) (rest := []) ⟨hx, hb, hml, hown, hts⟩ (c_X10_isMeant l D h0 i_e i_n v72 m_now m_draft m_past j_acts m_images m_kept m_tape j_taped j_at j_start j_token j_value j_fault j_place j_latest m_low m_high m_first m_second m_lines m_others j_shiftFirst j_shiftMany j_shiftLow j_shiftHigh kI g_low g_high (by first | decide | omega) (by first | decide | omega) (by first | decide | omega) (by first | decide | omega) hg_low hg_high) (cwV 3 hts g_X10_meantBy_X10_isMeant rfl rfl rfl (by decide +kernel) ⟨Nat.le_of_ble_eq_true rfl, Nat.le_of_ble_eq_true rfl⟩) ⟨fun a U g mk q => by obtain ⟨q0, qP, qK⟩ := q; exact ⟨q0, qP, va_K.moved (u := U) (U := U.calling g mk a) (Vm.Alike.refl U.vm) qK⟩, va_recv hKc hPc (ci := 10) (q0 := 0) rfl rfl, fun U hU hW => ⟨rfl, by rw [hU]; exact hPc, va_K.moved hW.alike hKc⟩⟩ rfl rfl hl.1 rfl (lv_room (Nat.le_of_ble_eq_true rfl)) dX10_meantBy_30 ⟨Nat.le_of_ble_eq_true rfl, Nat.le_of_ble_eq_true rfl⟩) hS (fun _ _ h => h.elim) (fun _ h => h.elim) (fun r97 u t H1 locs ht hvm hw hB hz1 hk1 hS => ?_)
    have hP := pw_keep hP (fun q hq => hk1 q hq (fun h => h))
    generalize H1 = H at hP hS ⊢
    refine W.widen (k := 0) (n := 0) (Nat.le_of_ble_eq_true rfl) (Nat.le_of_ble_eq_true rfl) ?_
    have bor97 := hw.1
    have zor97 := pw_boolI bor97
    refine pw_join (fun (zz : Int32 × Int32 × Int32) H locs ls => match zz with | (v104, v105, v106) => va_P D vwCl [(h0, .inr (10, [.ref m_now, .ref m_draft, .ref m_past, .int j_acts, .ref m_images, .ref m_kept, .ref m_tape, .int j_taped, .int j_at, .int j_start, .int j_token, .int j_value, .int j_fault, .int j_place, .int j_latest, .ref m_low, .ref m_high, .ref m_first, .ref m_second, .ref m_lines, .ref m_others, .int j_shiftFirst, .int j_shiftMany, .int j_shiftLow, .int j_shiftHigh])), (m_now, .inl (kI, 192, .inl g_now)), (m_low, .inl (kI, 1000, .inl g_low)), (m_high, .inl (kI, 1000, .inl g_high))] H ∧ va_S (fun _ : Nat => False) s.heap H locs ∧ lv_has ls 8 [(0, .ref h0), (1, .int i_e), (2, .int i_n), (3, .int i_w), (4, .int v104), (5, .int v105), (6, .int v106), (7, .int v72)]) 0 0 (fun (zz : Int32 × Int32 × Int32) ls => match zz with | (v104, v105, v106) => F0 m 57 ls []) (fun zz H locs ls hI => ?_) (fun hJ107 => ?_)
    ·
      obtain ⟨v104, v105, v106⟩ := zz
      obtain ⟨hP, hS, hl⟩ := hI
      have hP : va_P D vwCl [(h0, .inr (10, [.ref m_now, .ref m_draft, .ref m_past, .int j_acts, .ref m_images, .ref m_kept, .ref m_tape, .int j_taped, .int j_at, .int j_start, .int j_token, .int j_value, .int j_fault, .int j_place, .int j_latest, .ref m_low, .ref m_high, .ref m_first, .ref m_second, .ref m_lines, .ref m_others, .int j_shiftFirst, .int j_shiftMany, .int j_shiftLow, .int j_shiftHigh])), (m_now, .inl (kI, 192, .inl g_now)), (m_low, .inl (kI, 1000, .inl g_low)), (m_high, .inl (kI, 1000, .inl g_high))] H := hP
      have hK : va_K D vwCl [(kI, .int)] s := hK
      have hl : lv_has ls 8 [(0, .ref h0), (1, .int i_e), (2, .int i_n), (3, .int i_w), (4, .int v104), (5, .int v105), (6, .int v106), (7, .int v72)] := hl
      refine W.eq (g2 := F0 m 57 ls []) rfl ?_
      obtain ⟨x108, ex108⟩ : ∃ y : Int32, y = v72 + 1 := ⟨_, rfl⟩
      have tx108 : x108.toInt = v72.toInt + 1 := pw_addX ex108 rfl (by decide) (by omega) (by omega)
      refine lv_iinc (v := x108) (lv' := [(7, .int x108), (0, .ref h0), (1, .int i_e), (2, .int i_n), (3, .int i_w), (4, .int v104), (5, .int v105), (6, .int v106)]) hx hb dX10_meantBy_57 hl (k := 7) rfl (by rw [ex108]; rfl) (by decide) rfl (fun ls hl => ?_)
      refine lv_goto (tgt := 14) hx hb dX10_meantBy_60 (by decide) ?_
      have hP9 : va_P D vwCl [(h0, .inr (10, [.ref m_now, .ref m_draft, .ref m_past, .int j_acts, .ref m_images, .ref m_kept, .ref m_tape, .int j_taped, .int j_at, .int j_start, .int j_token, .int j_value, .int j_fault, .int j_place, .int j_latest, .ref m_low, .ref m_high, .ref m_first, .ref m_second, .ref m_lines, .ref m_others, .int j_shiftFirst, .int j_shiftMany, .int j_shiftLow, .int j_shiftHigh])), (m_now, .inl (kI, 192, .inl g_now)), (m_low, .inl (kI, 1000, .inl g_low)), (m_high, .inl (kI, 1000, .inl g_high))] H := hP.sub [0, 1, 2, 3] rfl
      have hl9 : lv_has ls 8 [(0, .ref h0), (1, .int i_e), (2, .int i_n), (3, .int i_w), (4, .int v104), (5, .int v105), (6, .int v106), (7, .int x108)] := lv_sub hl [1, 2, 3, 4, 5, 6, 7, 0] rfl
      refine W.widen (k := 0) (n := 0) (Nat.le_of_ble_eq_true rfl) (Nat.le_of_ble_eq_true rfl) ?_
      exact ih73 (v104, v105, v106, x108) _ _ _ (pw_up ex108 (by omega)) ⟨hP9, hS, hl9, (pw_upge ex108 (by omega) (by omega))⟩
    ·
      refine lv_if_eq (tgt := 57) hx hb dX10_meantBy_33 (by decide) (fun c109 => ?_) (fun c109 => ?_)
      · have nc109 : r97.toInt = 0 := pw_eq c109 rfl (by decide)
        have hP9 : va_P D vwCl [(h0, .inr (10, [.ref m_now, .ref m_draft, .ref m_past, .int j_acts, .ref m_images, .ref m_kept, .ref m_tape, .int j_taped, .int j_at, .int j_start, .int j_token, .int j_value, .int j_fault, .int j_place, .int j_latest, .ref m_low, .ref m_high, .ref m_first, .ref m_second, .ref m_lines, .ref m_others, .int j_shiftFirst, .int j_shiftMany, .int j_shiftLow, .int j_shiftHigh])), (m_now, .inl (kI, 192, .inl g_now)), (m_low, .inl (kI, 1000, .inl g_low)), (m_high, .inl (kI, 1000, .inl g_high))] H := hP.sub [0, 1, 2, 3] rfl
        have hl9 : lv_has ls 8 [(0, .ref h0), (1, .int i_e), (2, .int i_n), (3, .int i_w), (4, .int v69), (5, .int v70), (6, .int v71), (7, .int v72)] := lv_sub hl [0, 1, 2, 3, 4, 5, 6, 7] rfl
        refine W.widen (k := 0) (n := 0) (Nat.le_of_ble_eq_true rfl) (Nat.le_of_ble_eq_true rfl) ?_
        exact hJ107 (v69, v70, v71) _ _ _ ⟨hP9, hS, hl9⟩
      · have nc109 : r97.toInt ≠ 0 := pw_ne c109 rfl (by decide)
        refine lv_iload hx hb dX10_meantBy_36 (lv_at hl 4 rfl) ?_
        refine pw_join (fun (v111 : Int32) H locs ls => va_P D vwCl [(h0, .inr (10, [.ref m_now, .ref m_draft, .ref m_past, .int j_acts, .ref m_images, .ref m_kept, .ref m_tape, .int j_taped, .int j_at, .int j_start, .int j_token, .int j_value, .int j_fault, .int j_place, .int j_latest, .ref m_low, .ref m_high, .ref m_first, .ref m_second, .ref m_lines, .ref m_others, .int j_shiftFirst, .int j_shiftMany, .int j_shiftLow, .int j_shiftHigh])), (m_now, .inl (kI, 192, .inl g_now)), (m_low, .inl (kI, 1000, .inl g_low)), (m_high, .inl (kI, 1000, .inl g_high))] H ∧ va_S (fun _ : Nat => False) s.heap H locs ∧ lv_has ls 8 [(0, .ref h0), (1, .int i_e), (2, .int i_n), (3, .int i_w), (4, .int v69), (5, .int v70), (6, .int v71), (7, .int v72)]) 0 0 (fun (v111 : Int32) ls => F0 m 48 ls [.int v111]) (fun v111 H locs ls hI => ?_) (fun hJ112 => ?_)
        ·
          obtain ⟨hP, hS, hl⟩ := hI
          have hP : va_P D vwCl [(h0, .inr (10, [.ref m_now, .ref m_draft, .ref m_past, .int j_acts, .ref m_images, .ref m_kept, .ref m_tape, .int j_taped, .int j_at, .int j_start, .int j_token, .int j_value, .int j_fault, .int j_place, .int j_latest, .ref m_low, .ref m_high, .ref m_first, .ref m_second, .ref m_lines, .ref m_others, .int j_shiftFirst, .int j_shiftMany, .int j_shiftLow, .int j_shiftHigh])), (m_now, .inl (kI, 192, .inl g_now)), (m_low, .inl (kI, 1000, .inl g_low)), (m_high, .inl (kI, 1000, .inl g_high))] H := hP
          have hK : va_K D vwCl [(kI, .int)] s := hK
          have hl : lv_has ls 8 [(0, .ref h0), (1, .int i_e), (2, .int i_n), (3, .int i_w), (4, .int v69), (5, .int v70), (6, .int v71), (7, .int v72)] := hl
          refine W.eq (g2 := F0 m 48 ls [.int v111]) rfl ?_
          refine lv_istore (lv' := [(5, .int v111), (0, .ref h0), (1, .int i_e), (2, .int i_n), (3, .int i_w), (4, .int v69), (6, .int v71), (7, .int v72)]) hx hb dX10_meantBy_48 hl (by decide) rfl (fun ls hl => ?_)
          refine lv_iload hx hb dX10_meantBy_50 (lv_at hl 7 rfl) ?_
          refine lv_istore (lv' := [(6, .int v72), (5, .int v111), (0, .ref h0), (1, .int i_e), (2, .int i_n), (3, .int i_w), (4, .int v69), (7, .int v72)]) hx hb dX10_meantBy_52 hl (by decide) rfl (fun ls hl => ?_)
          obtain ⟨x113, ex113⟩ : ∃ y : Int32, y = v69 + 1 := ⟨_, rfl⟩
          refine lv_iinc (v := x113) (lv' := [(4, .int x113), (6, .int v72), (5, .int v111), (0, .ref h0), (1, .int i_e), (2, .int i_n), (3, .int i_w), (7, .int v72)]) hx hb dX10_meantBy_54 hl (k := 6) rfl (by rw [ex113]; rfl) (by decide) rfl (fun ls hl => ?_)
          have hP9 : va_P D vwCl [(h0, .inr (10, [.ref m_now, .ref m_draft, .ref m_past, .int j_acts, .ref m_images, .ref m_kept, .ref m_tape, .int j_taped, .int j_at, .int j_start, .int j_token, .int j_value, .int j_fault, .int j_place, .int j_latest, .ref m_low, .ref m_high, .ref m_first, .ref m_second, .ref m_lines, .ref m_others, .int j_shiftFirst, .int j_shiftMany, .int j_shiftLow, .int j_shiftHigh])), (m_now, .inl (kI, 192, .inl g_now)), (m_low, .inl (kI, 1000, .inl g_low)), (m_high, .inl (kI, 1000, .inl g_high))] H := hP.sub [0, 1, 2, 3] rfl
          have hl9 : lv_has ls 8 [(0, .ref h0), (1, .int i_e), (2, .int i_n), (3, .int i_w), (4, .int x113), (5, .int v111), (6, .int v72), (7, .int v72)] := lv_sub hl [3, 4, 5, 6, 0, 2, 1, 7] rfl
          refine W.widen (k := 0) (n := 0) (Nat.le_of_ble_eq_true rfl) (Nat.le_of_ble_eq_true rfl) ?_
          exact hJ107 (x113, v111, v72) _ _ _ ⟨hP9, hS, hl9⟩
        ·
          refine lv_if_ne (tgt := 46) hx hb dX10_meantBy_38 (by decide) (fun c114 => ?_) (fun c114 => ?_)
          · have nc114 : v69.toInt ≠ 0 := pw_ne c114 rfl (by decide)
            refine lv_iload hx hb dX10_meantBy_46 (lv_at hl 5 rfl) ?_
            have hP9 : va_P D vwCl [(h0, .inr (10, [.ref m_now, .ref m_draft, .ref m_past, .int j_acts, .ref m_images, .ref m_kept, .ref m_tape, .int j_taped, .int j_at, .int j_start, .int j_token, .int j_value, .int j_fault, .int j_place, .int j_latest, .ref m_low, .ref m_high, .ref m_first, .ref m_second, .ref m_lines, .ref m_others, .int j_shiftFirst, .int j_shiftMany, .int j_shiftLow, .int j_shiftHigh])), (m_now, .inl (kI, 192, .inl g_now)), (m_low, .inl (kI, 1000, .inl g_low)), (m_high, .inl (kI, 1000, .inl g_high))] H := hP.sub [0, 1, 2, 3] rfl
            have hl9 : lv_has ls 8 [(0, .ref h0), (1, .int i_e), (2, .int i_n), (3, .int i_w), (4, .int v69), (5, .int v70), (6, .int v71), (7, .int v72)] := lv_sub hl [0, 1, 2, 3, 4, 5, 6, 7] rfl
            refine W.widen (k := 0) (n := 0) (Nat.le_of_ble_eq_true rfl) (Nat.le_of_ble_eq_true rfl) ?_
            exact hJ112 v70 _ _ _ ⟨hP9, hS, hl9⟩
          · have nc114 : v69.toInt = 0 := pw_eq c114 rfl (by decide)
            refine lv_iload hx hb dX10_meantBy_41 (lv_at hl 7 rfl) ?_
            refine lv_goto (tgt := 48) hx hb dX10_meantBy_43 (by decide) ?_
            have hP9 : va_P D vwCl [(h0, .inr (10, [.ref m_now, .ref m_draft, .ref m_past, .int j_acts, .ref m_images, .ref m_kept, .ref m_tape, .int j_taped, .int j_at, .int j_start, .int j_token, .int j_value, .int j_fault, .int j_place, .int j_latest, .ref m_low, .ref m_high, .ref m_first, .ref m_second, .ref m_lines, .ref m_others, .int j_shiftFirst, .int j_shiftMany, .int j_shiftLow, .int j_shiftHigh])), (m_now, .inl (kI, 192, .inl g_now)), (m_low, .inl (kI, 1000, .inl g_low)), (m_high, .inl (kI, 1000, .inl g_high))] H := hP.sub [0, 1, 2, 3] rfl
            have hl9 : lv_has ls 8 [(0, .ref h0), (1, .int i_e), (2, .int i_n), (3, .int i_w), (4, .int v69), (5, .int v70), (6, .int v71), (7, .int v72)] := lv_sub hl [0, 1, 2, 3, 4, 5, 6, 7] rfl
            refine W.widen (k := 0) (n := 0) (Nat.le_of_ble_eq_true rfl) (Nat.le_of_ble_eq_true rfl) ?_
            exact hJ112 v72 _ _ _ ⟨hP9, hS, hl9⟩
def w_X10_numbersThat : List Cond := .code yX10_numbersThat cX10_numbersThat 6 (some .int) :: ([.fieldLink RX10 35 "LineCitesModel" "first" "[Z", .methodLink RX10 239 yX10_meantBy, .instanceMethod yX10_meantBy, .selects RX10 yX10_meantBy yX10_meantBy, .initialized RX10, .code yX10_meantBy cX10_meantBy 8 (some .int), .constant RX10 61 (-1000000), .fieldLink RX10 7 "LineCitesModel" "now" "[I", .methodLink RX10 69 yX10_isMeant, .instanceMethod yX10_isMeant, .selects RX10 yX10_isMeant yX10_isMeant, .code yX10_isMeant cX10_isMeant 4 (some .boolean), .fieldLink RX10 29 "LineCitesModel" "low" "[I", .fieldLink RX10 32 "LineCitesModel" "high" "[I"] ++ wsX100)
set_option maxRecDepth 20000 in
theorem g_X10_numbersThat_X10_meantBy : GoodIn w_X10_numbersThat (wsV RX10 239 RX10 yX10_meantBy w_X10_meantBy) := goodIn_r _ [2, 3, 4, 5, 6, 7, 8, 9, 10, 11, 5, 12, 13, 14, 15, 16, 17, 18, 19, 20, 21, 22, 23, 24, 25, 26, 27, 28, 29, 30, 31, 32, 33, 34, 35, 36, 37, 38, 39] rfl (by decide +kernel)
set_option maxHeartbeats 4000000 in
set_option maxRecDepth 100000 in
theorem c_X10_numbersThat (l : Launch) (D : va_G) (h0 : Nat) (i_e : Int32) (i_w : Int32) (m_now : Nat) (m_draft : Nat) (m_past : Nat) (j_acts : Int32) (m_images : Nat) (m_kept : Nat) (m_tape : Nat) (j_taped : Int32) (j_at : Int32) (j_start : Int32) (j_token : Int32) (j_value : Int32) (j_fault : Int32) (j_place : Int32) (j_latest : Int32) (m_low : Nat) (m_high : Nat) (m_first : Nat) (m_second : Nat) (m_lines : Nat) (m_others : Nat) (j_shiftFirst : Int32) (j_shiftMany : Int32) (j_shiftLow : Int32) (j_shiftHigh : Int32) (kI : ClassId) (g_now : Nat → Int32) (g_low : Nat → Int32) (g_high : Nat → Int32) (kZ : ClassId) (g_first : Nat → Int32) (h0i_e : 0 ≤ i_e.toInt) (h1i_e : i_e.toInt ≤ 4) (hg_now : gV g_now) (hg_low : bP g_low) (hg_high : bP g_high) : Met l yX10_numbersThat w_X10_numbersThat ({ frames := 2, cells := 0, slots := 0, locals := 50 }) (va_Pc [.ref h0, .int i_e, .int i_w] (fun U => va_P D vwCl [(h0, .inr (10, [.ref m_now, .ref m_draft, .ref m_past, .int j_acts, .ref m_images, .ref m_kept, .ref m_tape, .int j_taped, .int j_at, .int j_start, .int j_token, .int j_value, .int j_fault, .int j_place, .int j_latest, .ref m_low, .ref m_high, .ref m_first, .ref m_second, .ref m_lines, .ref m_others, .int j_shiftFirst, .int j_shiftMany, .int j_shiftLow, .int j_shiftHigh])), (m_now, .inl (kI, 192, .inl g_now)), (m_low, .inl (kI, 1000, .inl g_low)), (m_high, .inl (kI, 1000, .inl g_high)), (m_first, .inl (kZ, 1000, .inl g_first))] U.heap ∧ va_K D vwCl [(kI, .int), (kZ, .boolean)] U)) (va_Qi (fun (r : Int32) (_ : Unit) => True) (fun _ _ => True) (fun _ => False)) 0 0 (fun _ => False) := by
  refine Met.ofW (cc := cX10_numbersThat) (maxL := 6) (ret := (some .int)) (by decide) rfl ?_
  intro p e s m args below meth c s₁ B hml hv
  obtain ⟨rfl, hP, hK⟩ := hv
  have hx := B.exec
  have hb := B.bytes
  have hr := B.returns
  have hts := atoms_spec (ws := w_X10_numbersThat) B.pre
  have hown : s.vm.findClass RX10 = some m.cls := findClass_of_methodNamed B.named
  have hlocks := B.notSynchronized
  have hS : va_S (fun _ : Nat => False) s.heap s.heap [] := va_S.rf
  have hP : va_P D vwCl [(h0, .inr (10, [.ref m_now, .ref m_draft, .ref m_past, .int j_acts, .ref m_images, .ref m_kept, .ref m_tape, .int j_taped, .int j_at, .int j_start, .int j_token, .int j_value, .int j_fault, .int j_place, .int j_latest, .ref m_low, .ref m_high, .ref m_first, .ref m_second, .ref m_lines, .ref m_others, .int j_shiftFirst, .int j_shiftMany, .int j_shiftLow, .int j_shiftHigh])), (m_now, .inl (kI, 192, .inl g_now)), (m_low, .inl (kI, 1000, .inl g_low)), (m_high, .inl (kI, 1000, .inl g_high)), (m_first, .inl (kZ, 1000, .inl g_first))] s.heap := hP
  have hl := lv_entry ([.ref h0, .int i_e, .int i_w]) (n := 6) (Nat.le_of_ble_eq_true rfl)
  rw [lg_entry_eq]
  generalize (lg_sl ([.ref h0, .int i_e, .int i_w]) ++ List.replicate (6 - (lg_sl ([.ref h0, .int i_e, .int i_w])).length) Slot.unset).toArray = ls at hl ⊢
  have hl : lv_has ls 6 [(0, .ref h0), (1, .int i_e), (2, .int i_w)] := hl
  obtain ⟨H, hHe⟩ : ∃ H : Heap, H = s.heap := ⟨_, rfl⟩
  rw [← hHe] at hP
  have hS : va_S (fun _ : Nat => False) s.heap H [] := by rw [hHe]; exact hS
  refine pw_heap hHe ?_
  refine lv_iconst (v := 0) hx hb dX10_numbersThat_0 (by decide) ?_
  refine lv_istore_n (lv' := [(3, .int 0), (0, .ref h0), (1, .int i_e), (2, .int i_w)]) hx hb dX10_numbersThat_1 rfl hl (by decide) rfl (fun ls hl => ?_)
  refine lv_iconst (v := 1) hx hb dX10_numbersThat_2 (by decide) ?_
  refine lv_istore (lv' := [(4, .int 1), (3, .int 0), (0, .ref h0), (1, .int i_e), (2, .int i_w)]) hx hb dX10_numbersThat_3 hl (by decide) rfl (fun ls hl => ?_)
  have hl9 : lv_has ls 6 [(0, .ref h0), (1, .int i_e), (2, .int i_w), (3, .int 0), (4, .int 1)] := lv_sub hl [2, 3, 4, 1, 0] rfl
  refine pw_loop (fun (zz : Int32 × Int32) H locs ls => match zz with | (v80, v81) => va_P D vwCl [(h0, .inr (10, [.ref m_now, .ref m_draft, .ref m_past, .int j_acts, .ref m_images, .ref m_kept, .ref m_tape, .int j_taped, .int j_at, .int j_start, .int j_token, .int j_value, .int j_fault, .int j_place, .int j_latest, .ref m_low, .ref m_high, .ref m_first, .ref m_second, .ref m_lines, .ref m_others, .int j_shiftFirst, .int j_shiftMany, .int j_shiftLow, .int j_shiftHigh])), (m_now, .inl (kI, 192, .inl g_now)), (m_low, .inl (kI, 1000, .inl g_low)), (m_high, .inl (kI, 1000, .inl g_high)), (m_first, .inl (kZ, 1000, .inl g_first))] H ∧ va_S (fun _ : Nat => False) s.heap H locs ∧ lv_has ls 6 [(0, .ref h0), (1, .int i_e), (2, .int i_w), (3, .int v80), (4, .int v81)] ∧ 1 ≤ v81.toInt) (fun (zz : Int32 × Int32)  => match zz with | (v80, v81) => (2147483648 - v81.toInt).toNat) 0 0 (fun (zz : Int32 × Int32) ls => match zz with | (v80, v81) => F0 m 5 ls []) (fun zz H locs ls ih82 hI => ?_) (0, 1) _ _ _ ⟨hP, hS, hl9, (by decide)⟩
  obtain ⟨v80, v81⟩ := zz
  obtain ⟨hP, hS, hl, bv81⟩ := hI
  have bv81 : 1 ≤ v81.toInt := bv81
  have hP : va_P D vwCl [(h0, .inr (10, [.ref m_now, .ref m_draft, .ref m_past, .int j_acts, .ref m_images, .ref m_kept, .ref m_tape, .int j_taped, .int j_at, .int j_start, .int j_token, .int j_value, .int j_fault, .int j_place, .int j_latest, .ref m_low, .ref m_high, .ref m_first, .ref m_second, .ref m_lines, .ref m_others, .int j_shiftFirst, .int j_shiftMany, .int j_shiftLow, .int j_shiftHigh])), (m_now, .inl (kI, 192, .inl g_now)), (m_low, .inl (kI, 1000, .inl g_low)), (m_high, .inl (kI, 1000, .inl g_high)), (m_first, .inl (kZ, 1000, .inl g_first))] H := hP
  have hK : va_K D vwCl [(kI, .int), (kZ, .boolean)] s := hK
  have hl : lv_has ls 6 [(0, .ref h0), (1, .int i_e), (2, .int i_w), (3, .int v80), (4, .int v81)] := hl
  refine W.eq (g2 := F0 m 5 ls []) rfl ?_
  refine lv_iload hx hb dX10_numbersThat_5 (lv_at hl 4 rfl) ?_
  refine lv_sipush (v := 1000) hx hb dX10_numbersThat_7 (by decide) ?_
  refine lv_icmp_ge (tgt := 86) hx hb dX10_numbersThat_10 (by decide) (fun c109 => ?_) (fun c109 => ?_)
  · have nc109 : 1000 ≤ v81.toInt := pw_le c109 (by decide) rfl
    refine lv_iload_n hx hb dX10_numbersThat_86 rfl (lv_at hl 3 rfl) ?_
    exact W.iret (v := v80) hx hb hr (fun t ht hW => ⟨⟨v80, (), rfl, trivial, trivial⟩, hS.F ht⟩) hS.2.2 dX10_numbersThat_87
  · have nc109 : v81.toInt < 1000 := pw_nle c109 (by decide) rfl
    refine lv_aload_n hx hb dX10_numbersThat_13 rfl (lv_at hl 0 rfl) ?_
    refine va_get (D := D) (ci := 10) (v := .ref m_first) (C := RX10) (T := TX10) (N := 25) hx hb hts (fun _ h => List.mem_cons_of_mem _ (List.mem_append_right _ h)) hown hK hP 0 rfl rfl 17 (by decide) (hts (.fieldLink RX10 35 "LineCitesModel" "first" "[Z") (List.mem_of_getElem? (i := 1) rfl)) (fun _ h9 => h9) rfl dX10_numbersThat_14 ?_
    refine lv_iload hx hb dX10_numbersThat_17 (lv_at hl 4 rfl) ?_
    refine va_zald hx hb hK hP 4 1 rfl rfl (vp_in_iff.mpr ⟨by omega, by omega⟩) dX10_numbersThat_19 ?_
    refine lv_topi (fun x110 ex110 => ?_)
    refine pw_join (fun (v113 : Int32) H locs ls => va_P D vwCl [(h0, .inr (10, [.ref m_now, .ref m_draft, .ref m_past, .int j_acts, .ref m_images, .ref m_kept, .ref m_tape, .int j_taped, .int j_at, .int j_start, .int j_token, .int j_value, .int j_fault, .int j_place, .int j_latest, .ref m_low, .ref m_high, .ref m_first, .ref m_second, .ref m_lines, .ref m_others, .int j_shiftFirst, .int j_shiftMany, .int j_shiftLow, .int j_shiftHigh])), (m_now, .inl (kI, 192, .inl g_now)), (m_low, .inl (kI, 1000, .inl g_low)), (m_high, .inl (kI, 1000, .inl g_high)), (m_first, .inl (kZ, 1000, .inl g_first))] H ∧ va_S (fun _ : Nat => False) s.heap H locs ∧ lv_has ls 6 [(0, .ref h0), (1, .int i_e), (2, .int i_w), (3, .int v80), (4, .int v81)]) 0 0 (fun (v113 : Int32) ls => F0 m 35 ls [.int v113]) (fun v113 H locs ls hI => ?_) (fun hJ114 => ?_)
    ·
      obtain ⟨hP, hS, hl⟩ := hI
      have hP : va_P D vwCl [(h0, .inr (10, [.ref m_now, .ref m_draft, .ref m_past, .int j_acts, .ref m_images, .ref m_kept, .ref m_tape, .int j_taped, .int j_at, .int j_start, .int j_token, .int j_value, .int j_fault, .int j_place, .int j_latest, .ref m_low, .ref m_high, .ref m_first, .ref m_second, .ref m_lines, .ref m_others, .int j_shiftFirst, .int j_shiftMany, .int j_shiftLow, .int j_shiftHigh])), (m_now, .inl (kI, 192, .inl g_now)), (m_low, .inl (kI, 1000, .inl g_low)), (m_high, .inl (kI, 1000, .inl g_high)), (m_first, .inl (kZ, 1000, .inl g_first))] H := hP
      have hK : va_K D vwCl [(kI, .int), (kZ, .boolean)] s := hK
      have hl : lv_has ls 6 [(0, .ref h0), (1, .int i_e), (2, .int i_w), (3, .int v80), (4, .int v81)] := hl
      refine W.eq (g2 := F0 m 35 ls [.int v113]) rfl ?_
      refine lv_istore (lv' := [(5, .int v113), (0, .ref h0), (1, .int i_e), (2, .int i_w), (3, .int v80), (4, .int v81)]) hx hb dX10_numbersThat_35 hl (by decide) rfl (fun ls hl => ?_)
      refine lv_iload_n hx hb dX10_numbersThat_37 rfl (lv_at hl 4 rfl) ?_
      refine lv_iload hx hb dX10_numbersThat_38 (lv_at hl 0 rfl) ?_
      refine lv_iconst (v := 1) hx hb dX10_numbersThat_40 (by decide) ?_
      refine pw_join (fun (v122 : Int32) H locs ls => va_P D vwCl [(h0, .inr (10, [.ref m_now, .ref m_draft, .ref m_past, .int j_acts, .ref m_images, .ref m_kept, .ref m_tape, .int j_taped, .int j_at, .int j_start, .int j_token, .int j_value, .int j_fault, .int j_place, .int j_latest, .ref m_low, .ref m_high, .ref m_first, .ref m_second, .ref m_lines, .ref m_others, .int j_shiftFirst, .int j_shiftMany, .int j_shiftLow, .int j_shiftHigh])), (m_now, .inl (kI, 192, .inl g_now)), (m_low, .inl (kI, 1000, .inl g_low)), (m_high, .inl (kI, 1000, .inl g_high)), (m_first, .inl (kZ, 1000, .inl g_first))] H ∧ va_S (fun _ : Nat => False) s.heap H locs ∧ lv_has ls 6 [(0, .ref h0), (1, .int i_e), (2, .int i_w), (3, .int v80), (4, .int v81), (5, .int v113)]) 0 0 (fun (v122 : Int32) ls => F0 m 78 ls [.int v122, .int v80]) (fun v122 H locs ls hI => ?_) (fun hJ123 => ?_)
      ·
        obtain ⟨hP, hS, hl⟩ := hI
        have hP : va_P D vwCl [(h0, .inr (10, [.ref m_now, .ref m_draft, .ref m_past, .int j_acts, .ref m_images, .ref m_kept, .ref m_tape, .int j_taped, .int j_at, .int j_start, .int j_token, .int j_value, .int j_fault, .int j_place, .int j_latest, .ref m_low, .ref m_high, .ref m_first, .ref m_second, .ref m_lines, .ref m_others, .int j_shiftFirst, .int j_shiftMany, .int j_shiftLow, .int j_shiftHigh])), (m_now, .inl (kI, 192, .inl g_now)), (m_low, .inl (kI, 1000, .inl g_low)), (m_high, .inl (kI, 1000, .inl g_high)), (m_first, .inl (kZ, 1000, .inl g_first))] H := hP
        have hK : va_K D vwCl [(kI, .int), (kZ, .boolean)] s := hK
        have hl : lv_has ls 6 [(0, .ref h0), (1, .int i_e), (2, .int i_w), (3, .int v80), (4, .int v81), (5, .int v113)] := hl
        refine W.eq (g2 := F0 m 78 ls [.int v122, .int v80]) rfl ?_
        refine lv_iadd hx hb dX10_numbersThat_78 ?_
        refine lv_topi (fun x124 ex124 => ?_)
        refine lv_istore_n (lv' := [(3, .int x124), (0, .ref h0), (1, .int i_e), (2, .int i_w), (4, .int v81), (5, .int v113)]) hx hb dX10_numbersThat_79 rfl hl (by decide) rfl (fun ls hl => ?_)
        obtain ⟨x125, ex125⟩ : ∃ y : Int32, y = v81 + 1 := ⟨_, rfl⟩
        have tx125 : x125.toInt = v81.toInt + 1 := pw_addX ex125 rfl (by decide) (by omega) (by omega)
        refine lv_iinc (v := x125) (lv' := [(4, .int x125), (3, .int x124), (0, .ref h0), (1, .int i_e), (2, .int i_w), (5, .int v113)]) hx hb dX10_numbersThat_80 hl (k := 4) rfl (by rw [ex125]; rfl) (by decide) rfl (fun ls hl => ?_)
        refine lv_goto (tgt := 5) hx hb dX10_numbersThat_83 (by decide) ?_
        have hP9 : va_P D vwCl [(h0, .inr (10, [.ref m_now, .ref m_draft, .ref m_past, .int j_acts, .ref m_images, .ref m_kept, .ref m_tape, .int j_taped, .int j_at, .int j_start, .int j_token, .int j_value, .int j_fault, .int j_place, .int j_latest, .ref m_low, .ref m_high, .ref m_first, .ref m_second, .ref m_lines, .ref m_others, .int j_shiftFirst, .int j_shiftMany, .int j_shiftLow, .int j_shiftHigh])), (m_now, .inl (kI, 192, .inl g_now)), (m_low, .inl (kI, 1000, .inl g_low)), (m_high, .inl (kI, 1000, .inl g_high)), (m_first, .inl (kZ, 1000, .inl g_first))] H := hP.sub [0, 1, 2, 3, 4] rfl
        have hl9 : lv_has ls 6 [(0, .ref h0), (1, .int i_e), (2, .int i_w), (3, .int x124), (4, .int x125)] := lv_sub hl [2, 3, 4, 1, 0] rfl
        refine W.widen (k := 0) (n := 0) (Nat.le_of_ble_eq_true rfl) (Nat.le_of_ble_eq_true rfl) ?_
        exact ih82 (x124, x125) _ _ _ (pw_up ex125 (by omega)) ⟨hP9, hS, hl9, (pw_upge ex125 (by omega) (by omega))⟩
      ·
        refine lv_icmp_le (tgt := 77) hx hb dX10_numbersThat_41 (by decide) (fun c126 => ?_) (fun c126 => ?_)
        · have nc126 : v113.toInt ≤ 1 := pw_le c126 rfl (by decide)
          refine lv_iconst (v := 0) hx hb dX10_numbersThat_77 (by decide) ?_
          have hP9 : va_P D vwCl [(h0, .inr (10, [.ref m_now, .ref m_draft, .ref m_past, .int j_acts, .ref m_images, .ref m_kept, .ref m_tape, .int j_taped, .int j_at, .int j_start, .int j_token, .int j_value, .int j_fault, .int j_place, .int j_latest, .ref m_low, .ref m_high, .ref m_first, .ref m_second, .ref m_lines, .ref m_others, .int j_shiftFirst, .int j_shiftMany, .int j_shiftLow, .int j_shiftHigh])), (m_now, .inl (kI, 192, .inl g_now)), (m_low, .inl (kI, 1000, .inl g_low)), (m_high, .inl (kI, 1000, .inl g_high)), (m_first, .inl (kZ, 1000, .inl g_first))] H := hP.sub [0, 1, 2, 3, 4] rfl
          have hl9 : lv_has ls 6 [(0, .ref h0), (1, .int i_e), (2, .int i_w), (3, .int v80), (4, .int v81), (5, .int v113)] := lv_sub hl [1, 2, 3, 4, 5, 0] rfl
          refine W.widen (k := 0) (n := 0) (Nat.le_of_ble_eq_true rfl) (Nat.le_of_ble_eq_true rfl) ?_
          exact hJ123 0 _ _ _ ⟨hP9, hS, hl9⟩
        · have nc126 : 1 < v113.toInt := pw_nle c126 rfl (by decide)
          refine lv_iload_n hx hb dX10_numbersThat_44 rfl (lv_at hl 3 rfl) ?_
          refine lv_iconst (v := 5) hx hb dX10_numbersThat_45 (by decide) ?_
          refine lv_icmp_eq (tgt := 73) hx hb dX10_numbersThat_46 (by decide) (fun c127 => ?_) (fun c127 => ?_)
          · have nc127 : i_w.toInt = 5 := pw_eq c127 rfl (by decide)
            refine lv_iconst (v := 1) hx hb dX10_numbersThat_73 (by decide) ?_
            refine lv_goto (tgt := 78) hx hb dX10_numbersThat_74 (by decide) ?_
            have hP9 : va_P D vwCl [(h0, .inr (10, [.ref m_now, .ref m_draft, .ref m_past, .int j_acts, .ref m_images, .ref m_kept, .ref m_tape, .int j_taped, .int j_at, .int j_start, .int j_token, .int j_value, .int j_fault, .int j_place, .int j_latest, .ref m_low, .ref m_high, .ref m_first, .ref m_second, .ref m_lines, .ref m_others, .int j_shiftFirst, .int j_shiftMany, .int j_shiftLow, .int j_shiftHigh])), (m_now, .inl (kI, 192, .inl g_now)), (m_low, .inl (kI, 1000, .inl g_low)), (m_high, .inl (kI, 1000, .inl g_high)), (m_first, .inl (kZ, 1000, .inl g_first))] H := hP.sub [0, 1, 2, 3, 4] rfl
            have hl9 : lv_has ls 6 [(0, .ref h0), (1, .int i_e), (2, .int i_w), (3, .int v80), (4, .int v81), (5, .int v113)] := lv_sub hl [1, 2, 3, 4, 5, 0] rfl
            refine W.widen (k := 0) (n := 0) (Nat.le_of_ble_eq_true rfl) (Nat.le_of_ble_eq_true rfl) ?_
            exact hJ123 1 _ _ _ ⟨hP9, hS, hl9⟩
          · have nc127 : i_w.toInt ≠ 5 := pw_ne c127 rfl (by decide)
            refine lv_aload_n hx hb dX10_numbersThat_49 rfl (lv_at hl 1 rfl) ?_
            refine lv_iload_n hx hb dX10_numbersThat_50 rfl (lv_at hl 2 rfl) ?_
            refine lv_iload hx hb dX10_numbersThat_51 (lv_at hl 5 rfl) ?_
            refine lv_iconst (v := 2) hx hb dX10_numbersThat_53 (by decide) ?_
            have hPc := hP.sub (ws' := [(h0, .inr (10, [.ref m_now, .ref m_draft, .ref m_past, .int j_acts, .ref m_images, .ref m_kept, .ref m_tape, .int j_taped, .int j_at, .int j_start, .int j_token, .int j_value, .int j_fault, .int j_place, .int j_latest, .ref m_low, .ref m_high, .ref m_first, .ref m_second, .ref m_lines, .ref m_others, .int j_shiftFirst, .int j_shiftMany, .int j_shiftLow, .int j_shiftHigh])), (m_now, .inl (kI, 192, .inl g_now)), (m_low, .inl (kI, 1000, .inl g_low)), (m_high, .inl (kI, 1000, .inl g_high))]) [0, 1, 2, 3] rfl
            have hKc := hK.sub (tys' := [(kI, .int)]) [0] rfl
            refine va_calli (va_runV (As := [.int i_e, .int v81, .int 2]) (rest := [.int v80]) ⟨hx, hb, hml, hown, hts⟩ (c_X10_meantBy l D h0 i_e v81 2 m_now m_draft m_past j_acts m_images m_kept m_tape j_taped j_at j_start j_token j_value j_fault j_place j_latest m_low m_high m_first m_second m_lines m_others j_shiftFirst j_shiftMany j_shiftLow j_shiftHigh kI g_now g_low g_high (by first | decide | omega) (by first | decide | omega) hg_now hg_low hg_high) (cwV 3 hts g_X10_numbersThat_X10_meantBy rfl rfl rfl (by decide +kernel) ⟨Nat.le_of_ble_eq_true rfl, Nat.le_of_ble_eq_true rfl⟩) ⟨fun a U g mk q => by obtain ⟨q0, qP, qK⟩ := q; exact ⟨q0, qP, va_K.moved (u := U) (U := U.calling g mk a) (Vm.Alike.refl U.vm) qK⟩, va_recv hKc hPc (ci := 10) (q0 := 0) rfl rfl, fun U hU hW => ⟨rfl, by rw [hU]; exact hPc, va_K.moved hW.alike hKc⟩⟩ rfl rfl hl.1 rfl (lv_room (Nat.le_of_ble_eq_true rfl)) dX10_numbersThat_54 ⟨Nat.le_of_ble_eq_true rfl, Nat.le_of_ble_eq_true rfl⟩) hS (fun _ _ h => h.elim) (fun _ h => h.elim) (fun r128 u t H1 locs ht hvm hw hB hz1 hk1 hS => ?_)
            have hP := pw_keep hP (fun q hq => hk1 q hq (fun h => h))
            generalize H1 = H at hP hS ⊢
            refine W.widen (k := 0) (n := 0) (Nat.le_of_ble_eq_true rfl) (Nat.le_of_ble_eq_true rfl) ?_
            refine lv_aload_n hx hb dX10_numbersThat_57 rfl (lv_at hl 1 rfl) ?_
            refine lv_iload_n hx hb dX10_numbersThat_58 rfl (lv_at hl 2 rfl) ?_
            refine lv_iload hx hb dX10_numbersThat_59 (lv_at hl 5 rfl) ?_
            refine lv_iconst (v := 1) hx hb dX10_numbersThat_61 (by decide) ?_
            have hPc := hP.sub (ws' := [(h0, .inr (10, [.ref m_now, .ref m_draft, .ref m_past, .int j_acts, .ref m_images, .ref m_kept, .ref m_tape, .int j_taped, .int j_at, .int j_start, .int j_token, .int j_value, .int j_fault, .int j_place, .int j_latest, .ref m_low, .ref m_high, .ref m_first, .ref m_second, .ref m_lines, .ref m_others, .int j_shiftFirst, .int j_shiftMany, .int j_shiftLow, .int j_shiftHigh])), (m_now, .inl (kI, 192, .inl g_now)), (m_low, .inl (kI, 1000, .inl g_low)), (m_high, .inl (kI, 1000, .inl g_high))]) [0, 1, 2, 3] rfl
            have hKc := hK.sub (tys' := [(kI, .int)]) [0] rfl
            refine va_calli (va_runV (As := [.int i_e, .int v81, .int 1]) (rest := [.int r128, .int v80]) ⟨hx, hb, hml, hown, hts⟩ (c_X10_meantBy l D h0 i_e v81 1 m_now m_draft m_past j_acts m_images m_kept m_tape j_taped j_at j_start j_token j_value j_fault j_place j_latest m_low m_high m_first m_second m_lines m_others j_shiftFirst j_shiftMany j_shiftLow j_shiftHigh kI g_now g_low g_high (by first | decide | omega) (by first | decide | omega) hg_now hg_low hg_high) (cwV 3 hts g_X10_numbersThat_X10_meantBy rfl rfl rfl (by decide +kernel) ⟨Nat.le_of_ble_eq_true rfl, Nat.le_of_ble_eq_true rfl⟩) ⟨fun a U g mk q => by obtain ⟨q0, qP, qK⟩ := q; exact ⟨q0, qP, va_K.moved (u := U) (U := U.calling g mk a) (Vm.Alike.refl U.vm) qK⟩, va_recv hKc hPc (ci := 10) (q0 := 0) rfl rfl, fun U hU hW => ⟨rfl, by rw [hU]; exact hPc, va_K.moved hW.alike hKc⟩⟩ rfl rfl hl.1 rfl (lv_room (Nat.le_of_ble_eq_true rfl)) dX10_numbersThat_62 ⟨Nat.le_of_ble_eq_true rfl, Nat.le_of_ble_eq_true rfl⟩) hS (fun _ _ h => h.elim) (fun _ h => h.elim) (fun r129 u t H1 locs ht hvm hw hB hz1 hk1 hS => ?_)
            have hP := pw_keep hP (fun q hq => hk1 q hq (fun h => h))
            generalize H1 = H at hP hS ⊢
            refine W.widen (k := 0) (n := 0) (Nat.le_of_ble_eq_true rfl) (Nat.le_of_ble_eq_true rfl) ?_
            refine lv_isub hx hb dX10_numbersThat_65 ?_
            refine lv_topi (fun x130 ex130 => ?_)
            refine lv_iconst (v := 1) hx hb dX10_numbersThat_66 (by decide) ?_
            refine lv_iadd hx hb dX10_numbersThat_67 ?_
            refine lv_topi (fun x131 ex131 => ?_)
            refine lv_iload hx hb dX10_numbersThat_68 (lv_at hl 0 rfl) ?_
            refine lv_icmp_le (tgt := 77) hx hb dX10_numbersThat_70 (by decide) (fun c132 => ?_) (fun c132 => ?_)
            · have nc132 : x131.toInt ≤ v113.toInt := pw_le c132 rfl rfl
              have mc132x131 := pw_max x131
              have mc132v113 := pw_max v113
              refine lv_iconst (v := 0) hx hb dX10_numbersThat_77 (by decide) ?_
              have hP9 : va_P D vwCl [(h0, .inr (10, [.ref m_now, .ref m_draft, .ref m_past, .int j_acts, .ref m_images, .ref m_kept, .ref m_tape, .int j_taped, .int j_at, .int j_start, .int j_token, .int j_value, .int j_fault, .int j_place, .int j_latest, .ref m_low, .ref m_high, .ref m_first, .ref m_second, .ref m_lines, .ref m_others, .int j_shiftFirst, .int j_shiftMany, .int j_shiftLow, .int j_shiftHigh])), (m_now, .inl (kI, 192, .inl g_now)), (m_low, .inl (kI, 1000, .inl g_low)), (m_high, .inl (kI, 1000, .inl g_high)), (m_first, .inl (kZ, 1000, .inl g_first))] H := hP.sub [0, 1, 2, 3, 4] rfl
              have hl9 : lv_has ls 6 [(0, .ref h0), (1, .int i_e), (2, .int i_w), (3, .int v80), (4, .int v81), (5, .int v113)] := lv_sub hl [1, 2, 3, 4, 5, 0] rfl
              refine W.widen (k := 0) (n := 0) (Nat.le_of_ble_eq_true rfl) (Nat.le_of_ble_eq_true rfl) ?_
              exact hJ123 0 _ _ _ ⟨hP9, hS, hl9⟩
            · have nc132 : v113.toInt < x131.toInt := pw_nle c132 rfl rfl
              have mc132x131 := pw_max x131
              have mc132v113 := pw_max v113
              refine lv_iconst (v := 1) hx hb dX10_numbersThat_73 (by decide) ?_
              refine lv_goto (tgt := 78) hx hb dX10_numbersThat_74 (by decide) ?_
              have hP9 : va_P D vwCl [(h0, .inr (10, [.ref m_now, .ref m_draft, .ref m_past, .int j_acts, .ref m_images, .ref m_kept, .ref m_tape, .int j_taped, .int j_at, .int j_start, .int j_token, .int j_value, .int j_fault, .int j_place, .int j_latest, .ref m_low, .ref m_high, .ref m_first, .ref m_second, .ref m_lines, .ref m_others, .int j_shiftFirst, .int j_shiftMany, .int j_shiftLow, .int j_shiftHigh])), (m_now, .inl (kI, 192, .inl g_now)), (m_low, .inl (kI, 1000, .inl g_low)), (m_high, .inl (kI, 1000, .inl g_high)), (m_first, .inl (kZ, 1000, .inl g_first))] H := hP.sub [0, 1, 2, 3, 4] rfl
              have hl9 : lv_has ls 6 [(0, .ref h0), (1, .int i_e), (2, .int i_w), (3, .int v80), (4, .int v81), (5, .int v113)] := lv_sub hl [1, 2, 3, 4, 5, 0] rfl
              refine W.widen (k := 0) (n := 0) (Nat.le_of_ble_eq_true rfl) (Nat.le_of_ble_eq_true rfl) ?_
              exact hJ123 1 _ _ _ ⟨hP9, hS, hl9⟩
    ·
      refine lv_if_eq (tgt := 34) hx hb dX10_numbersThat_20 (by decide) (fun c133 => ?_) (fun c133 => ?_)
      · have nc133 : x110.toInt = 0 := pw_eq c133 rfl (by decide)
        refine lv_iconst (v := 0) hx hb dX10_numbersThat_34 (by decide) ?_
        have hP9 : va_P D vwCl [(h0, .inr (10, [.ref m_now, .ref m_draft, .ref m_past, .int j_acts, .ref m_images, .ref m_kept, .ref m_tape, .int j_taped, .int j_at, .int j_start, .int j_token, .int j_value, .int j_fault, .int j_place, .int j_latest, .ref m_low, .ref m_high, .ref m_first, .ref m_second, .ref m_lines, .ref m_others, .int j_shiftFirst, .int j_shiftMany, .int j_shiftLow, .int j_shiftHigh])), (m_now, .inl (kI, 192, .inl g_now)), (m_low, .inl (kI, 1000, .inl g_low)), (m_high, .inl (kI, 1000, .inl g_high)), (m_first, .inl (kZ, 1000, .inl g_first))] H := hP.sub [0, 1, 2, 3, 4] rfl
        have hl9 : lv_has ls 6 [(0, .ref h0), (1, .int i_e), (2, .int i_w), (3, .int v80), (4, .int v81)] := lv_sub hl [0, 1, 2, 3, 4] rfl
        refine W.widen (k := 0) (n := 0) (Nat.le_of_ble_eq_true rfl) (Nat.le_of_ble_eq_true rfl) ?_
        exact hJ114 0 _ _ _ ⟨hP9, hS, hl9⟩
      · have nc133 : x110.toInt ≠ 0 := pw_ne c133 rfl (by decide)
        refine lv_aload_n hx hb dX10_numbersThat_23 rfl (lv_at hl 0 rfl) ?_
        refine lv_iload_n hx hb dX10_numbersThat_24 rfl (lv_at hl 1 rfl) ?_
        refine lv_iload hx hb dX10_numbersThat_25 (lv_at hl 4 rfl) ?_
        refine lv_iconst (v := 0) hx hb dX10_numbersThat_27 (by decide) ?_
        have hPc := hP.sub (ws' := [(h0, .inr (10, [.ref m_now, .ref m_draft, .ref m_past, .int j_acts, .ref m_images, .ref m_kept, .ref m_tape, .int j_taped, .int j_at, .int j_start, .int j_token, .int j_value, .int j_fault, .int j_place, .int j_latest, .ref m_low, .ref m_high, .ref m_first, .ref m_second, .ref m_lines, .ref m_others, .int j_shiftFirst, .int j_shiftMany, .int j_shiftLow, .int j_shiftHigh])), (m_now, .inl (kI, 192, .inl g_now)), (m_low, .inl (kI, 1000, .inl g_low)), (m_high, .inl (kI, 1000, .inl g_high))]) [0, 1, 2, 3] rfl
        have hKc := hK.sub (tys' := [(kI, .int)]) [0] rfl
        refine va_calli (va_runV (As := [.int i_e, .int v81, .int 0]) (rest := []) ⟨hx, hb, hml, hown, hts⟩ (c_X10_meantBy l D h0 i_e v81 0 m_now m_draft m_past j_acts m_images m_kept m_tape j_taped j_at j_start j_token j_value j_fault j_place j_latest m_low m_high m_first m_second m_lines m_others j_shiftFirst j_shiftMany j_shiftLow j_shiftHigh kI g_now g_low g_high (by first | decide | omega) (by first | decide | omega) hg_now hg_low hg_high) (cwV 3 hts g_X10_numbersThat_X10_meantBy rfl rfl rfl (by decide +kernel) ⟨Nat.le_of_ble_eq_true rfl, Nat.le_of_ble_eq_true rfl⟩) ⟨fun a U g mk q => by obtain ⟨q0, qP, qK⟩ := q; exact ⟨q0, qP, va_K.moved (u := U) (U := U.calling g mk a) (Vm.Alike.refl U.vm) qK⟩, va_recv hKc hPc (ci := 10) (q0 := 0) rfl rfl, fun U hU hW => ⟨rfl, by rw [hU]; exact hPc, va_K.moved hW.alike hKc⟩⟩ rfl rfl hl.1 rfl (lv_room (Nat.le_of_ble_eq_true rfl)) dX10_numbersThat_28 ⟨Nat.le_of_ble_eq_true rfl, Nat.le_of_ble_eq_true rfl⟩) hS (fun _ _ h => h.elim) (fun _ h => h.elim) (fun r134 u t H1 locs ht hvm hw hB hz1 hk1 hS => ?_)
        have hP := pw_keep hP (fun q hq => hk1 q hq (fun h => h))
        generalize H1 = H at hP hS ⊢
        refine W.widen (k := 0) (n := 0) (Nat.le_of_ble_eq_true rfl) (Nat.le_of_ble_eq_true rfl) ?_
        refine lv_goto (tgt := 35) hx hb dX10_numbersThat_31 (by decide) ?_
        have hP9 : va_P D vwCl [(h0, .inr (10, [.ref m_now, .ref m_draft, .ref m_past, .int j_acts, .ref m_images, .ref m_kept, .ref m_tape, .int j_taped, .int j_at, .int j_start, .int j_token, .int j_value, .int j_fault, .int j_place, .int j_latest, .ref m_low, .ref m_high, .ref m_first, .ref m_second, .ref m_lines, .ref m_others, .int j_shiftFirst, .int j_shiftMany, .int j_shiftLow, .int j_shiftHigh])), (m_now, .inl (kI, 192, .inl g_now)), (m_low, .inl (kI, 1000, .inl g_low)), (m_high, .inl (kI, 1000, .inl g_high)), (m_first, .inl (kZ, 1000, .inl g_first))] H := hP.sub [0, 1, 2, 3, 4] rfl
        have hl9 : lv_has ls 6 [(0, .ref h0), (1, .int i_e), (2, .int i_w), (3, .int v80), (4, .int v81)] := lv_sub hl [0, 1, 2, 3, 4] rfl
        refine W.widen (k := 0) (n := 0) (Nat.le_of_ble_eq_true rfl) (Nat.le_of_ble_eq_true rfl) ?_
        exact hJ114 r134 _ _ _ ⟨hP9, hS, hl9⟩
def w_X10_cited : List Cond := .code yX10_cited cX10_cited 3 (some .int) :: ([.fieldLink RX10 7 "LineCitesModel" "now" "[I"] ++ wsX100)
set_option maxHeartbeats 4000000 in
set_option maxRecDepth 100000 in
theorem c_X10_cited (l : Launch) (D : va_G) (h0 : Nat) (i_c : Int32) (i_w : Int32) (m_now : Nat) (m_draft : Nat) (m_past : Nat) (j_acts : Int32) (m_images : Nat) (m_kept : Nat) (m_tape : Nat) (j_taped : Int32) (j_at : Int32) (j_start : Int32) (j_token : Int32) (j_value : Int32) (j_fault : Int32) (j_place : Int32) (j_latest : Int32) (m_low : Nat) (m_high : Nat) (m_first : Nat) (m_second : Nat) (m_lines : Nat) (m_others : Nat) (j_shiftFirst : Int32) (j_shiftMany : Int32) (j_shiftLow : Int32) (j_shiftHigh : Int32) (kI : ClassId) (g_now : Nat → Int32) (kc : Nat) (kw : Nat) (h0i_c : 0 ≤ i_c.toInt) (h1i_c : i_c.toInt ≤ 7) (h0i_w : 0 ≤ i_w.toInt) (h1i_w : i_w.toInt ≤ 4) (hnkc : i_c.toInt = ((kc : Nat) : Int)) (hnkw : i_w.toInt = ((kw : Nat) : Int)) : Met l yX10_cited w_X10_cited ({ frames := 0, cells := 0, slots := 0, locals := 0 }) (va_Pc [.ref h0, .int i_c, .int i_w] (fun U => va_P D vwCl [(h0, .inr (10, [.ref m_now, .ref m_draft, .ref m_past, .int j_acts, .ref m_images, .ref m_kept, .ref m_tape, .int j_taped, .int j_at, .int j_start, .int j_token, .int j_value, .int j_fault, .int j_place, .int j_latest, .ref m_low, .ref m_high, .ref m_first, .ref m_second, .ref m_lines, .ref m_others, .int j_shiftFirst, .int j_shiftMany, .int j_shiftLow, .int j_shiftHigh])), (m_now, .inl (kI, 192, .inl g_now))] U.heap ∧ va_K D vwCl [(kI, .int)] U)) (va_Qi (fun (r : Int32) (_ : Unit) => r.toInt = (g_now (128 + 5 * kc + kw)).toInt) (fun _ _ => True) (fun _ => False)) 0 0 (fun _ => False) := by
  refine Met.ofW (cc := cX10_cited) (maxL := 3) (ret := (some .int)) (by decide) rfl ?_
  intro p e s m args below meth c s₁ B hml hv
  obtain ⟨rfl, hP, hK⟩ := hv
  have hx := B.exec
  have hb := B.bytes
  have hr := B.returns
  have hts := atoms_spec (ws := w_X10_cited) B.pre
  have hown : s.vm.findClass RX10 = some m.cls := findClass_of_methodNamed B.named
  have hlocks := B.notSynchronized
  have hS : va_S (fun _ : Nat => False) s.heap s.heap [] := va_S.rf
  have hP : va_P D vwCl [(h0, .inr (10, [.ref m_now, .ref m_draft, .ref m_past, .int j_acts, .ref m_images, .ref m_kept, .ref m_tape, .int j_taped, .int j_at, .int j_start, .int j_token, .int j_value, .int j_fault, .int j_place, .int j_latest, .ref m_low, .ref m_high, .ref m_first, .ref m_second, .ref m_lines, .ref m_others, .int j_shiftFirst, .int j_shiftMany, .int j_shiftLow, .int j_shiftHigh])), (m_now, .inl (kI, 192, .inl g_now))] s.heap := hP
  have hl := lv_entry ([.ref h0, .int i_c, .int i_w]) (n := 3) (Nat.le_of_ble_eq_true rfl)
  rw [lg_entry_eq]
  generalize (lg_sl ([.ref h0, .int i_c, .int i_w]) ++ List.replicate (3 - (lg_sl ([.ref h0, .int i_c, .int i_w])).length) Slot.unset).toArray = ls at hl ⊢
  have hl : lv_has ls 3 [(0, .ref h0), (1, .int i_c), (2, .int i_w)] := hl
  obtain ⟨H, hHe⟩ : ∃ H : Heap, H = s.heap := ⟨_, rfl⟩
  rw [← hHe] at hP
  have hS : va_S (fun _ : Nat => False) s.heap H [] := by rw [hHe]; exact hS
  refine pw_heap hHe ?_
  refine lv_aload_n hx hb dX10_cited_0 rfl (lv_at hl 0 rfl) ?_
  refine va_get (D := D) (ci := 10) (v := .ref m_now) (C := RX10) (T := TX10) (N := 25) hx hb hts (fun _ h => List.mem_cons_of_mem _ (List.mem_append_right _ h)) hown hK hP 0 rfl rfl 0 (by decide) (hts (.fieldLink RX10 7 "LineCitesModel" "now" "[I") (List.mem_of_getElem? (i := 1) rfl)) (fun _ h9 => h9) rfl dX10_cited_1 ?_
  refine lv_sipush (v := 128) hx hb dX10_cited_4 (by decide) ?_
  refine lv_iconst (v := 5) hx hb dX10_cited_7 (by decide) ?_
  refine lv_iload_n hx hb dX10_cited_8 rfl (lv_at hl 1 rfl) ?_
  refine lv_imul hx hb dX10_cited_9 ?_
  refine lv_topi (fun x1 ex1 => ?_)
  have tx1 : x1.toInt = 5 * i_c.toInt := pw_mulX ex1 (by decide) rfl (by omega) (by omega)
  refine lv_iadd hx hb dX10_cited_10 ?_
  refine lv_topi (fun x2 ex2 => ?_)
  have tx2 : x2.toInt = 128 + x1.toInt := pw_addX ex2 (by decide) rfl (by omega) (by omega)
  refine lv_iload_n hx hb dX10_cited_11 rfl (lv_at hl 2 rfl) ?_
  refine lv_iadd hx hb dX10_cited_12 ?_
  refine lv_topi (fun x3 ex3 => ?_)
  have tx3 : x3.toInt = x2.toInt + i_w.toInt := pw_addX ex3 rfl rfl (by omega) (by omega)
  refine va_iald hx hb hK hP 1 0 rfl rfl (vp_in_iff.mpr ⟨by omega, by omega⟩) dX10_cited_13 ?_
  refine lv_topi (fun x4 ex4 => ?_)
  exact W.iret (v := x4) hx hb hr (fun t ht hW => ⟨⟨x4, (), rfl, (pC_at ex4 (by omega)), trivial⟩, hS.F ht⟩) hS.2.2 dX10_cited_14
def w_X10_isCitation : List Cond := .code yX10_isCitation cX10_isCitation 2 (some .boolean) :: ([.constantLong RX10 213 (7), .methodLink RX10 51 yX10_in0, .static yX10_in0, .initialized RX10, .code yX10_in0 cX10_in0 6 (some .boolean), .methodLink RX10 215 yX10_cited, .instanceMethod yX10_cited, .selects RX10 yX10_cited yX10_cited, .code yX10_cited cX10_cited 3 (some .int), .fieldLink RX10 7 "LineCitesModel" "now" "[I"] ++ wsX100)
set_option maxRecDepth 20000 in
theorem g_X10_isCitation_X10_in0 : GoodIn w_X10_isCitation (wsS RX10 51 yX10_in0 w_X10_in0) := goodIn_r _ [2, 3, 4, 5] rfl (by decide +kernel)
set_option maxRecDepth 20000 in
theorem g_X10_isCitation_X10_cited : GoodIn w_X10_isCitation (wsV RX10 215 RX10 yX10_cited w_X10_cited) := goodIn_r _ [6, 7, 8, 4, 9, 10, 11, 12, 13, 14, 15, 16, 17, 18, 19, 20, 21, 22, 23, 24, 25, 26, 27, 28, 29, 30, 31, 32, 33, 34, 35] rfl (by decide +kernel)
set_option maxHeartbeats 4000000 in
set_option maxRecDepth 100000 in
theorem c_X10_isCitation (l : Launch) (D : va_G) (h0 : Nat) (i_c : Int32) (m_now : Nat) (m_draft : Nat) (m_past : Nat) (j_acts : Int32) (m_images : Nat) (m_kept : Nat) (m_tape : Nat) (j_taped : Int32) (j_at : Int32) (j_start : Int32) (j_token : Int32) (j_value : Int32) (j_fault : Int32) (j_place : Int32) (j_latest : Int32) (m_low : Nat) (m_high : Nat) (m_first : Nat) (m_second : Nat) (m_lines : Nat) (m_others : Nat) (j_shiftFirst : Int32) (j_shiftMany : Int32) (j_shiftLow : Int32) (j_shiftHigh : Int32) (kI : ClassId) (g_now : Nat → Int32) : Met l yX10_isCitation w_X10_isCitation ({ frames := 1, cells := 0, slots := 0, locals := 25 }) (va_Pc [.ref h0, .int i_c] (fun U => va_P D vwCl [(h0, .inr (10, [.ref m_now, .ref m_draft, .ref m_past, .int j_acts, .ref m_images, .ref m_kept, .ref m_tape, .int j_taped, .int j_at, .int j_start, .int j_token, .int j_value, .int j_fault, .int j_place, .int j_latest, .ref m_low, .ref m_high, .ref m_first, .ref m_second, .ref m_lines, .ref m_others, .int j_shiftFirst, .int j_shiftMany, .int j_shiftLow, .int j_shiftHigh])), (m_now, .inl (kI, 192, .inl g_now))] U.heap ∧ va_K D vwCl [(kI, .int)] U)) (va_Qi (fun (r : Int32) (_ : Unit) => (r = 0 ∨ r = 1) ∧ (r.toInt = 0 ∨ (r.toInt = 1 ∧ 0 ≤ i_c.toInt ∧ i_c.toInt ≤ 7))) (fun _ _ => True) (fun _ => False)) 0 0 (fun _ => False) := by
  refine Met.ofW (cc := cX10_isCitation) (maxL := 2) (ret := (some .boolean)) (by decide) rfl ?_
  intro p e s m args below meth c s₁ B hml hv
  obtain ⟨rfl, hP, hK⟩ := hv
  have hx := B.exec
  have hb := B.bytes
  have hr := B.returns
  have hts := atoms_spec (ws := w_X10_isCitation) B.pre
  have hown : s.vm.findClass RX10 = some m.cls := findClass_of_methodNamed B.named
  have hlocks := B.notSynchronized
  have hS : va_S (fun _ : Nat => False) s.heap s.heap [] := va_S.rf
  have hP : va_P D vwCl [(h0, .inr (10, [.ref m_now, .ref m_draft, .ref m_past, .int j_acts, .ref m_images, .ref m_kept, .ref m_tape, .int j_taped, .int j_at, .int j_start, .int j_token, .int j_value, .int j_fault, .int j_place, .int j_latest, .ref m_low, .ref m_high, .ref m_first, .ref m_second, .ref m_lines, .ref m_others, .int j_shiftFirst, .int j_shiftMany, .int j_shiftLow, .int j_shiftHigh])), (m_now, .inl (kI, 192, .inl g_now))] s.heap := hP
  have hl := lv_entry ([.ref h0, .int i_c]) (n := 2) (Nat.le_of_ble_eq_true rfl)
  rw [lg_entry_eq]
  generalize (lg_sl ([.ref h0, .int i_c]) ++ List.replicate (2 - (lg_sl ([.ref h0, .int i_c])).length) Slot.unset).toArray = ls at hl ⊢
  have hl : lv_has ls 2 [(0, .ref h0), (1, .int i_c)] := hl
  obtain ⟨H, hHe⟩ : ∃ H : Heap, H = s.heap := ⟨_, rfl⟩
  rw [← hHe] at hP
  have hS : va_S (fun _ : Nat => False) s.heap H [] := by rw [hHe]; exact hS
  refine pw_heap hHe ?_
  refine lv_iload_n hx hb dX10_isCitation_0 rfl (lv_at hl 1 rfl) ?_
  refine lv_i2l (v := i_c.toInt64) hx hb dX10_isCitation_1 rfl ?_
  refine lv_lconst (v := 0) hx hb dX10_isCitation_2 (by decide) ?_
  refine lv_ldc2 hx hb hown (hts (.constantLong RX10 213 (7)) (List.mem_of_getElem? (i := 1) rfl)) dX10_isCitation_3 ?_
  have hPc := hP.sub (ws' := []) [] rfl
  have hKc := hK.sub (tys' := []) [] rfl
  refine va_calli (va_runS (As := [.long i_c.toInt64, .long 0, .long 7]) (rest := []) ⟨hx, hb, hml, hown, hts⟩ (c_X10_in0 l D i_c.toInt64 0 7) (cwS 3 hts g_X10_isCitation_X10_in0 rfl rfl rfl (by decide +kernel) ⟨Nat.le_of_ble_eq_true rfl, Nat.le_of_ble_eq_true rfl⟩) ⟨fun a U g mk q => by obtain ⟨q0, qP, qK⟩ := q; exact ⟨q0, qP, va_K.moved (u := U) (U := U.calling g mk a) (Vm.Alike.refl U.vm) qK⟩, fun U hU hW => ⟨rfl, by rw [hU]; exact hPc, va_K.moved hW.alike hKc⟩⟩ rfl rfl hl.1 rfl (lv_room (Nat.le_of_ble_eq_true rfl)) dX10_isCitation_6 ⟨Nat.le_of_ble_eq_true rfl, Nat.le_of_ble_eq_true rfl⟩) hS (fun _ _ h => h.elim) (fun _ h => h.elim) (fun r1 u t H1 locs ht hvm hw hB hz1 hk1 hS => ?_)
  have hP := pw_keep hP (fun q hq => hk1 q hq (fun h => h))
  generalize H1 = H at hP hS ⊢
  refine W.widen (k := 0) (n := 0) (Nat.le_of_ble_eq_true rfl) (Nat.le_of_ble_eq_true rfl) ?_
  have bor1 := hw.1
  have zor1 := pw_boolI bor1
  have hfr1 := hw.2
  have kl0 : (0 : Int64).toInt = 0 := by decide
  have kl7 : (7 : Int64).toInt = 7 := by decide
  try simp only [Int32.toInt_toInt64] at hfr1
  refine lv_if_eq (tgt := 26) hx hb dX10_isCitation_9 (by decide) (fun c2 => ?_) (fun c2 => ?_)
  · have nc2 : r1.toInt = 0 := pw_eq c2 rfl (by decide)
    refine lv_iconst (v := 0) hx hb dX10_isCitation_26 (by decide) ?_
    exact W.zret (v := 0) (ty := .boolean) hx hb hr rfl (fun t ht hW => ⟨⟨0, (), rfl, ⟨Or.inl rfl, (by have hv : (0 : Int32).toInt = 0 := (by decide); omega)⟩, trivial⟩, hS.F ht⟩) hS.2.2 dX10_isCitation_27
  · have nc2 : r1.toInt ≠ 0 := pw_ne c2 rfl (by decide)
    refine lv_aload_n hx hb dX10_isCitation_12 rfl (lv_at hl 0 rfl) ?_
    refine lv_iload_n hx hb dX10_isCitation_13 rfl (lv_at hl 1 rfl) ?_
    refine lv_iconst (v := 0) hx hb dX10_isCitation_14 (by decide) ?_
    have kk0 : (0 : Int32).toInt = 0 := by decide
    have hPc := hP.sub (ws' := [(h0, .inr (10, [.ref m_now, .ref m_draft, .ref m_past, .int j_acts, .ref m_images, .ref m_kept, .ref m_tape, .int j_taped, .int j_at, .int j_start, .int j_token, .int j_value, .int j_fault, .int j_place, .int j_latest, .ref m_low, .ref m_high, .ref m_first, .ref m_second, .ref m_lines, .ref m_others, .int j_shiftFirst, .int j_shiftMany, .int j_shiftLow, .int j_shiftHigh])), (m_now, .inl (kI, 192, .inl g_now))]) [0, 1] rfl
    have hKc := hK.sub (tys' := [(kI, .int)]) [0] rfl
    refine va_calli (va_runV (As := [.int i_c, .int 0]) (rest := []) ⟨hx, hb, hml, hown, hts⟩ (c_X10_cited l D h0 i_c 0 m_now m_draft m_past j_acts m_images m_kept m_tape j_taped j_at j_start j_token j_value j_fault j_place j_latest m_low m_high m_first m_second m_lines m_others j_shiftFirst j_shiftMany j_shiftLow j_shiftHigh kI g_now i_c.toInt.toNat 0 (by first | decide | omega) (by first | decide | omega) (by first | decide | omega) (by first | decide | omega) (by first | omega | decide | (have hz0 : (0 : Int32).toInt = 0 := (by decide); omega)) (by first | omega | decide | (have hz0 : (0 : Int32).toInt = 0 := (by decide); omega))) (cwV 2 hts g_X10_isCitation_X10_cited rfl rfl rfl (by decide +kernel) ⟨Nat.le_of_ble_eq_true rfl, Nat.le_of_ble_eq_true rfl⟩) ⟨fun a U g mk q => by obtain ⟨q0, qP, qK⟩ := q; exact ⟨q0, qP, va_K.moved (u := U) (U := U.calling g mk a) (Vm.Alike.refl U.vm) qK⟩, va_recv hKc hPc (ci := 10) (q0 := 0) rfl rfl, fun U hU hW => ⟨rfl, by rw [hU]; exact hPc, va_K.moved hW.alike hKc⟩⟩ rfl rfl hl.1 rfl (lv_room (Nat.le_of_ble_eq_true rfl)) dX10_isCitation_15 ⟨Nat.le_of_ble_eq_true rfl, Nat.le_of_ble_eq_true rfl⟩) hS (fun _ _ h => h.elim) (fun _ h => h.elim) (fun r3 u t H1 locs ht hvm hw hB hz1 hk1 hS => ?_)
    have hP := pw_keep hP (fun q hq => hk1 q hq (fun h => h))
    generalize H1 = H at hP hS ⊢
    refine W.widen (k := 0) (n := 0) (Nat.le_of_ble_eq_true rfl) (Nat.le_of_ble_eq_true rfl) ?_
    have hfr3 := hw
    refine lv_iconst (v := 1) hx hb dX10_isCitation_18 (by decide) ?_
    refine lv_icmp_ne (tgt := 26) hx hb dX10_isCitation_19 (by decide) (fun c4 => ?_) (fun c4 => ?_)
    · have nc4 : r3.toInt ≠ 1 := pw_ne c4 rfl (by decide)
      refine lv_iconst (v := 0) hx hb dX10_isCitation_26 (by decide) ?_
      exact W.zret (v := 0) (ty := .boolean) hx hb hr rfl (fun t ht hW => ⟨⟨0, (), rfl, ⟨Or.inl rfl, (by have hv : (0 : Int32).toInt = 0 := (by decide); omega)⟩, trivial⟩, hS.F ht⟩) hS.2.2 dX10_isCitation_27
    · have nc4 : r3.toInt = 1 := pw_eq c4 rfl (by decide)
      refine lv_iconst (v := 1) hx hb dX10_isCitation_22 (by decide) ?_
      refine lv_goto (tgt := 27) hx hb dX10_isCitation_23 (by decide) ?_
      exact W.zret (v := 1) (ty := .boolean) hx hb hr rfl (fun t ht hW => ⟨⟨1, (), rfl, ⟨Or.inr rfl, (by have hv : (1 : Int32).toInt = 1 := (by decide); omega)⟩, trivial⟩, hS.F ht⟩) hS.2.2 dX10_isCitation_27
def w_X10_citations : List Cond := .code yX10_citations cX10_citations 3 (some .int) :: ([.methodLink RX10 215 yX10_cited, .instanceMethod yX10_cited, .selects RX10 yX10_cited yX10_cited, .initialized RX10, .code yX10_cited cX10_cited 3 (some .int), .fieldLink RX10 7 "LineCitesModel" "now" "[I"] ++ wsX100)
set_option maxRecDepth 20000 in
theorem g_X10_citations_X10_cited : GoodIn w_X10_citations (wsV RX10 215 RX10 yX10_cited w_X10_cited) := goodIn_r _ [1, 2, 3, 4, 5, 6, 7, 8, 9, 10, 11, 12, 13, 14, 15, 16, 17, 18, 19, 20, 21, 22, 23, 24, 25, 26, 27, 28, 29, 30, 31] rfl (by decide +kernel)
set_option maxHeartbeats 4000000 in
set_option maxRecDepth 100000 in
theorem c_X10_citations (l : Launch) (D : va_G) (h0 : Nat) (m_now : Nat) (m_draft : Nat) (m_past : Nat) (j_acts : Int32) (m_images : Nat) (m_kept : Nat) (m_tape : Nat) (j_taped : Int32) (j_at : Int32) (j_start : Int32) (j_token : Int32) (j_value : Int32) (j_fault : Int32) (j_place : Int32) (j_latest : Int32) (m_low : Nat) (m_high : Nat) (m_first : Nat) (m_second : Nat) (m_lines : Nat) (m_others : Nat) (j_shiftFirst : Int32) (j_shiftMany : Int32) (j_shiftLow : Int32) (j_shiftHigh : Int32) (kI : ClassId) (g_now : Nat → Int32) : Met l yX10_citations w_X10_citations ({ frames := 1, cells := 0, slots := 0, locals := 22 }) (va_Pc [.ref h0] (fun U => va_P D vwCl [(h0, .inr (10, [.ref m_now, .ref m_draft, .ref m_past, .int j_acts, .ref m_images, .ref m_kept, .ref m_tape, .int j_taped, .int j_at, .int j_start, .int j_token, .int j_value, .int j_fault, .int j_place, .int j_latest, .ref m_low, .ref m_high, .ref m_first, .ref m_second, .ref m_lines, .ref m_others, .int j_shiftFirst, .int j_shiftMany, .int j_shiftLow, .int j_shiftHigh])), (m_now, .inl (kI, 192, .inl g_now))] U.heap ∧ va_K D vwCl [(kI, .int)] U)) (va_Qi (fun (r : Int32) (_ : Unit) => True) (fun _ _ => True) (fun _ => False)) 0 0 (fun _ => False) := by
  refine Met.ofW (cc := cX10_citations) (maxL := 3) (ret := (some .int)) (by decide) rfl ?_
  intro p e s m args below meth c s₁ B hml hv
  obtain ⟨rfl, hP, hK⟩ := hv
  have hx := B.exec
  have hb := B.bytes
  have hr := B.returns
  have hts := atoms_spec (ws := w_X10_citations) B.pre
  have hown : s.vm.findClass RX10 = some m.cls := findClass_of_methodNamed B.named
  have hlocks := B.notSynchronized
  have hS : va_S (fun _ : Nat => False) s.heap s.heap [] := va_S.rf
  have hP : va_P D vwCl [(h0, .inr (10, [.ref m_now, .ref m_draft, .ref m_past, .int j_acts, .ref m_images, .ref m_kept, .ref m_tape, .int j_taped, .int j_at, .int j_start, .int j_token, .int j_value, .int j_fault, .int j_place, .int j_latest, .ref m_low, .ref m_high, .ref m_first, .ref m_second, .ref m_lines, .ref m_others, .int j_shiftFirst, .int j_shiftMany, .int j_shiftLow, .int j_shiftHigh])), (m_now, .inl (kI, 192, .inl g_now))] s.heap := hP
  have hl := lv_entry ([.ref h0]) (n := 3) (Nat.le_of_ble_eq_true rfl)
  rw [lg_entry_eq]
  generalize (lg_sl ([.ref h0]) ++ List.replicate (3 - (lg_sl ([.ref h0])).length) Slot.unset).toArray = ls at hl ⊢
  have hl : lv_has ls 3 [(0, .ref h0)] := hl
  obtain ⟨H, hHe⟩ : ∃ H : Heap, H = s.heap := ⟨_, rfl⟩
  rw [← hHe] at hP
  have hS : va_S (fun _ : Nat => False) s.heap H [] := by rw [hHe]; exact hS
  refine pw_heap hHe ?_
  refine lv_iconst (v := 0) hx hb dX10_citations_0 (by decide) ?_
  refine lv_istore_n (lv' := [(1, .int 0), (0, .ref h0)]) hx hb dX10_citations_1 rfl hl (by decide) rfl (fun ls hl => ?_)
  refine lv_iconst (v := 0) hx hb dX10_citations_2 (by decide) ?_
  refine lv_istore_n (lv' := [(2, .int 0), (1, .int 0), (0, .ref h0)]) hx hb dX10_citations_3 rfl hl (by decide) rfl (fun ls hl => ?_)
  have hl9 : lv_has ls 3 [(0, .ref h0), (1, .int 0), (2, .int 0)] := lv_sub hl [2, 1, 0] rfl
  refine pw_loop (fun (zz : Int32 × Int32) H locs ls => match zz with | (v14, v15) => va_P D vwCl [(h0, .inr (10, [.ref m_now, .ref m_draft, .ref m_past, .int j_acts, .ref m_images, .ref m_kept, .ref m_tape, .int j_taped, .int j_at, .int j_start, .int j_token, .int j_value, .int j_fault, .int j_place, .int j_latest, .ref m_low, .ref m_high, .ref m_first, .ref m_second, .ref m_lines, .ref m_others, .int j_shiftFirst, .int j_shiftMany, .int j_shiftLow, .int j_shiftHigh])), (m_now, .inl (kI, 192, .inl g_now))] H ∧ va_S (fun _ : Nat => False) s.heap H locs ∧ lv_has ls 3 [(0, .ref h0), (1, .int v14), (2, .int v15)] ∧ 0 ≤ v15.toInt) (fun (zz : Int32 × Int32)  => match zz with | (v14, v15) => (2147483648 - v15.toInt).toNat) 0 0 (fun (zz : Int32 × Int32) ls => match zz with | (v14, v15) => F0 m 4 ls []) (fun zz H locs ls ih16 hI => ?_) (0, 0) _ _ _ ⟨hP, hS, hl9, (by decide)⟩
  obtain ⟨v14, v15⟩ := zz
  obtain ⟨hP, hS, hl, bv15⟩ := hI
  have bv15 : 0 ≤ v15.toInt := bv15
  have hP : va_P D vwCl [(h0, .inr (10, [.ref m_now, .ref m_draft, .ref m_past, .int j_acts, .ref m_images, .ref m_kept, .ref m_tape, .int j_taped, .int j_at, .int j_start, .int j_token, .int j_value, .int j_fault, .int j_place, .int j_latest, .ref m_low, .ref m_high, .ref m_first, .ref m_second, .ref m_lines, .ref m_others, .int j_shiftFirst, .int j_shiftMany, .int j_shiftLow, .int j_shiftHigh])), (m_now, .inl (kI, 192, .inl g_now))] H := hP
  have hK : va_K D vwCl [(kI, .int)] s := hK
  have hl : lv_has ls 3 [(0, .ref h0), (1, .int v14), (2, .int v15)] := hl
  refine W.eq (g2 := F0 m 4 ls []) rfl ?_
  refine lv_iload_n hx hb dX10_citations_4 rfl (lv_at hl 2 rfl) ?_
  refine lv_bipush (v := 8) hx hb dX10_citations_5 (by decide) ?_
  refine lv_icmp_ge (tgt := 25) hx hb dX10_citations_7 (by decide) (fun c21 => ?_) (fun c21 => ?_)
  · have nc21 : 8 ≤ v15.toInt := pw_le c21 (by decide) rfl
    refine lv_iload_n hx hb dX10_citations_25 rfl (lv_at hl 1 rfl) ?_
    exact W.iret (v := v14) hx hb hr (fun t ht hW => ⟨⟨v14, (), rfl, trivial, trivial⟩, hS.F ht⟩) hS.2.2 dX10_citations_26
  · have nc21 : v15.toInt < 8 := pw_nle c21 (by decide) rfl
    refine lv_iload_n hx hb dX10_citations_10 rfl (lv_at hl 1 rfl) ?_
    refine lv_aload_n hx hb dX10_citations_11 rfl (lv_at hl 0 rfl) ?_
    refine lv_iload_n hx hb dX10_citations_12 rfl (lv_at hl 2 rfl) ?_
    refine lv_iconst (v := 0) hx hb dX10_citations_13 (by decide) ?_
    have kk0 : (0 : Int32).toInt = 0 := by decide
    have hPc := hP.sub (ws' := [(h0, .inr (10, [.ref m_now, .ref m_draft, .ref m_past, .int j_acts, .ref m_images, .ref m_kept, .ref m_tape, .int j_taped, .int j_at, .int j_start, .int j_token, .int j_value, .int j_fault, .int j_place, .int j_latest, .ref m_low, .ref m_high, .ref m_first, .ref m_second, .ref m_lines, .ref m_others, .int j_shiftFirst, .int j_shiftMany, .int j_shiftLow, .int j_shiftHigh])), (m_now, .inl (kI, 192, .inl g_now))]) [0, 1] rfl
    have hKc := hK.sub (tys' := [(kI, .int)]) [0] rfl
    refine va_calli (va_runV (As := [.int v15, .int 0]) (rest := [.int v14]) ⟨hx, hb, hml, hown, hts⟩ (c_X10_cited l D h0 v15 0 m_now m_draft m_past j_acts m_images m_kept m_tape j_taped j_at j_start j_token j_value j_fault j_place j_latest m_low m_high m_first m_second m_lines m_others j_shiftFirst j_shiftMany j_shiftLow j_shiftHigh kI g_now v15.toInt.toNat 0 (by first | decide | omega) (by first | decide | omega) (by first | decide | omega) (by first | decide | omega) (by first | omega | decide | (have hz0 : (0 : Int32).toInt = 0 := (by decide); omega)) (by first | omega | decide | (have hz0 : (0 : Int32).toInt = 0 := (by decide); omega))) (cwV 2 hts g_X10_citations_X10_cited rfl rfl rfl (by decide +kernel) ⟨Nat.le_of_ble_eq_true rfl, Nat.le_of_ble_eq_true rfl⟩) ⟨fun a U g mk q => by obtain ⟨q0, qP, qK⟩ := q; exact ⟨q0, qP, va_K.moved (u := U) (U := U.calling g mk a) (Vm.Alike.refl U.vm) qK⟩, va_recv hKc hPc (ci := 10) (q0 := 0) rfl rfl, fun U hU hW => ⟨rfl, by rw [hU]; exact hPc, va_K.moved hW.alike hKc⟩⟩ rfl rfl hl.1 rfl (lv_room (Nat.le_of_ble_eq_true rfl)) dX10_citations_14 ⟨Nat.le_of_ble_eq_true rfl, Nat.le_of_ble_eq_true rfl⟩) hS (fun _ _ h => h.elim) (fun _ h => h.elim) (fun r22 u t H1 locs ht hvm hw hB hz1 hk1 hS => ?_)
    have hP := pw_keep hP (fun q hq => hk1 q hq (fun h => h))
    generalize H1 = H at hP hS ⊢
    refine W.widen (k := 0) (n := 0) (Nat.le_of_ble_eq_true rfl) (Nat.le_of_ble_eq_true rfl) ?_
    have hfr22 := hw
    refine lv_iadd hx hb dX10_citations_17 ?_
    refine lv_topi (fun x23 ex23 => ?_)
    refine lv_istore_n (lv' := [(1, .int x23), (0, .ref h0), (2, .int v15)]) hx hb dX10_citations_18 rfl hl (by decide) rfl (fun ls hl => ?_)
    obtain ⟨x24, ex24⟩ : ∃ y : Int32, y = v15 + 1 := ⟨_, rfl⟩
    have tx24 : x24.toInt = v15.toInt + 1 := pw_addX ex24 rfl (by decide) (by omega) (by omega)
    refine lv_iinc (v := x24) (lv' := [(2, .int x24), (1, .int x23), (0, .ref h0)]) hx hb dX10_citations_19 hl (k := 2) rfl (by rw [ex24]; rfl) (by decide) rfl (fun ls hl => ?_)
    refine lv_goto (tgt := 4) hx hb dX10_citations_22 (by decide) ?_
    have hP9 : va_P D vwCl [(h0, .inr (10, [.ref m_now, .ref m_draft, .ref m_past, .int j_acts, .ref m_images, .ref m_kept, .ref m_tape, .int j_taped, .int j_at, .int j_start, .int j_token, .int j_value, .int j_fault, .int j_place, .int j_latest, .ref m_low, .ref m_high, .ref m_first, .ref m_second, .ref m_lines, .ref m_others, .int j_shiftFirst, .int j_shiftMany, .int j_shiftLow, .int j_shiftHigh])), (m_now, .inl (kI, 192, .inl g_now))] H := hP.sub [0, 1] rfl
    have hl9 : lv_has ls 3 [(0, .ref h0), (1, .int x23), (2, .int x24)] := lv_sub hl [2, 1, 0] rfl
    refine W.widen (k := 0) (n := 0) (Nat.le_of_ble_eq_true rfl) (Nat.le_of_ble_eq_true rfl) ?_
    exact ih16 (x23, x24) _ _ _ (pw_up ex24 (by omega)) ⟨hP9, hS, hl9, (pw_upge ex24 (by omega) (by omega))⟩
def w_X10_allStretches : List Cond := .code yX10_allStretches cX10_allStretches 3 (some .int) :: ([.fieldLink RX10 7 "LineCitesModel" "now" "[I"] ++ wsX100)
set_option maxHeartbeats 4000000 in
set_option maxRecDepth 100000 in
theorem c_X10_allStretches (l : Launch) (D : va_G) (h0 : Nat) (m_now : Nat) (m_draft : Nat) (m_past : Nat) (j_acts : Int32) (m_images : Nat) (m_kept : Nat) (m_tape : Nat) (j_taped : Int32) (j_at : Int32) (j_start : Int32) (j_token : Int32) (j_value : Int32) (j_fault : Int32) (j_place : Int32) (j_latest : Int32) (m_low : Nat) (m_high : Nat) (m_first : Nat) (m_second : Nat) (m_lines : Nat) (m_others : Nat) (j_shiftFirst : Int32) (j_shiftMany : Int32) (j_shiftLow : Int32) (j_shiftHigh : Int32) (kI : ClassId) (g_now : Nat → Int32) (hg_now : gV g_now) : Met l yX10_allStretches w_X10_allStretches ({ frames := 0, cells := 0, slots := 0, locals := 0 }) (va_Pc [.ref h0] (fun U => va_P D vwCl [(h0, .inr (10, [.ref m_now, .ref m_draft, .ref m_past, .int j_acts, .ref m_images, .ref m_kept, .ref m_tape, .int j_taped, .int j_at, .int j_start, .int j_token, .int j_value, .int j_fault, .int j_place, .int j_latest, .ref m_low, .ref m_high, .ref m_first, .ref m_second, .ref m_lines, .ref m_others, .int j_shiftFirst, .int j_shiftMany, .int j_shiftLow, .int j_shiftHigh])), (m_now, .inl (kI, 192, .inl g_now))] U.heap ∧ va_K D vwCl [(kI, .int)] U)) (va_Qi (fun (r : Int32) (_ : Unit) => True) (fun _ _ => True) (fun _ => False)) 0 0 (fun _ => False) := by
  refine Met.ofW (cc := cX10_allStretches) (maxL := 3) (ret := (some .int)) (by decide) rfl ?_
  intro p e s m args below meth c s₁ B hml hv
  obtain ⟨rfl, hP, hK⟩ := hv
  have hx := B.exec
  have hb := B.bytes
  have hr := B.returns
  have hts := atoms_spec (ws := w_X10_allStretches) B.pre
  have hown : s.vm.findClass RX10 = some m.cls := findClass_of_methodNamed B.named
  have hlocks := B.notSynchronized
  have hS : va_S (fun _ : Nat => False) s.heap s.heap [] := va_S.rf
  have hP : va_P D vwCl [(h0, .inr (10, [.ref m_now, .ref m_draft, .ref m_past, .int j_acts, .ref m_images, .ref m_kept, .ref m_tape, .int j_taped, .int j_at, .int j_start, .int j_token, .int j_value, .int j_fault, .int j_place, .int j_latest, .ref m_low, .ref m_high, .ref m_first, .ref m_second, .ref m_lines, .ref m_others, .int j_shiftFirst, .int j_shiftMany, .int j_shiftLow, .int j_shiftHigh])), (m_now, .inl (kI, 192, .inl g_now))] s.heap := hP
  have hl := lv_entry ([.ref h0]) (n := 3) (Nat.le_of_ble_eq_true rfl)
  rw [lg_entry_eq]
  generalize (lg_sl ([.ref h0]) ++ List.replicate (3 - (lg_sl ([.ref h0])).length) Slot.unset).toArray = ls at hl ⊢
  have hl : lv_has ls 3 [(0, .ref h0)] := hl
  obtain ⟨H, hHe⟩ : ∃ H : Heap, H = s.heap := ⟨_, rfl⟩
  rw [← hHe] at hP
  have hS : va_S (fun _ : Nat => False) s.heap H [] := by rw [hHe]; exact hS
  refine pw_heap hHe ?_
  refine lv_iconst (v := 0) hx hb dX10_allStretches_0 (by decide) ?_
  refine lv_istore_n (lv' := [(1, .int 0), (0, .ref h0)]) hx hb dX10_allStretches_1 rfl hl (by decide) rfl (fun ls hl => ?_)
  refine lv_iconst (v := 0) hx hb dX10_allStretches_2 (by decide) ?_
  refine lv_istore_n (lv' := [(2, .int 0), (1, .int 0), (0, .ref h0)]) hx hb dX10_allStretches_3 rfl hl (by decide) rfl (fun ls hl => ?_)
  have hl9 : lv_has ls 3 [(0, .ref h0), (1, .int 0), (2, .int 0)] := lv_sub hl [2, 1, 0] rfl
  refine pw_loop (fun (zz : Int32 × Int32) H locs ls => match zz with | (v23, v24) => va_P D vwCl [(h0, .inr (10, [.ref m_now, .ref m_draft, .ref m_past, .int j_acts, .ref m_images, .ref m_kept, .ref m_tape, .int j_taped, .int j_at, .int j_start, .int j_token, .int j_value, .int j_fault, .int j_place, .int j_latest, .ref m_low, .ref m_high, .ref m_first, .ref m_second, .ref m_lines, .ref m_others, .int j_shiftFirst, .int j_shiftMany, .int j_shiftLow, .int j_shiftHigh])), (m_now, .inl (kI, 192, .inl g_now))] H ∧ va_S (fun _ : Nat => False) s.heap H locs ∧ lv_has ls 3 [(0, .ref h0), (1, .int v23), (2, .int v24)] ∧ 0 ≤ v24.toInt) (fun (zz : Int32 × Int32)  => match zz with | (v23, v24) => (2147483648 - v24.toInt).toNat) 0 0 (fun (zz : Int32 × Int32) ls => match zz with | (v23, v24) => F0 m 4 ls []) (fun zz H locs ls ih25 hI => ?_) (0, 0) _ _ _ ⟨hP, hS, hl9, (by decide)⟩
  obtain ⟨v23, v24⟩ := zz
  obtain ⟨hP, hS, hl, bv24⟩ := hI
  have bv24 : 0 ≤ v24.toInt := bv24
  have hP : va_P D vwCl [(h0, .inr (10, [.ref m_now, .ref m_draft, .ref m_past, .int j_acts, .ref m_images, .ref m_kept, .ref m_tape, .int j_taped, .int j_at, .int j_start, .int j_token, .int j_value, .int j_fault, .int j_place, .int j_latest, .ref m_low, .ref m_high, .ref m_first, .ref m_second, .ref m_lines, .ref m_others, .int j_shiftFirst, .int j_shiftMany, .int j_shiftLow, .int j_shiftHigh])), (m_now, .inl (kI, 192, .inl g_now))] H := hP
  have hK : va_K D vwCl [(kI, .int)] s := hK
  have hl : lv_has ls 3 [(0, .ref h0), (1, .int v23), (2, .int v24)] := hl
  refine W.eq (g2 := F0 m 4 ls []) rfl ?_
  refine lv_iload_n hx hb dX10_allStretches_4 rfl (lv_at hl 2 rfl) ?_
  refine lv_aload_n hx hb dX10_allStretches_5 rfl (lv_at hl 0 rfl) ?_
  refine va_get (D := D) (ci := 10) (v := .ref m_now) (C := RX10) (T := TX10) (N := 25) hx hb hts (fun _ h => List.mem_cons_of_mem _ (List.mem_append_right _ h)) hown hK hP 0 rfl rfl 0 (by decide) (hts (.fieldLink RX10 7 "LineCitesModel" "now" "[I") (List.mem_of_getElem? (i := 1) rfl)) (fun _ h9 => h9) rfl dX10_allStretches_6 ?_
  refine lv_iconst (v := 1) hx hb dX10_allStretches_9 (by decide) ?_
  refine va_iald hx hb hK hP 1 0 rfl rfl (vp_in_iff.mpr (by decide)) dX10_allStretches_10 ?_
  refine lv_topi (fun x26 ex26 => ?_)
  have nx26 : 0 ≤ x26.toInt ∧ x26.toInt ≤ 5 := gV_1 hg_now ex26
  refine lv_icmp_ge (tgt := 31) hx hb dX10_allStretches_11 (by decide) (fun c32 => ?_) (fun c32 => ?_)
  · have nc32 : x26.toInt ≤ v24.toInt := pw_le c32 rfl rfl
    have mc32v24 := pw_max v24
    have mc32x26 := pw_max x26
    refine lv_iload_n hx hb dX10_allStretches_31 rfl (lv_at hl 1 rfl) ?_
    exact W.iret (v := v23) hx hb hr (fun t ht hW => ⟨⟨v23, (), rfl, trivial, trivial⟩, hS.F ht⟩) hS.2.2 dX10_allStretches_32
  · have nc32 : v24.toInt < x26.toInt := pw_nle c32 rfl rfl
    have mc32v24 := pw_max v24
    have mc32x26 := pw_max x26
    refine lv_iload_n hx hb dX10_allStretches_14 rfl (lv_at hl 1 rfl) ?_
    refine lv_aload_n hx hb dX10_allStretches_15 rfl (lv_at hl 0 rfl) ?_
    refine va_get (D := D) (ci := 10) (v := .ref m_now) (C := RX10) (T := TX10) (N := 25) hx hb hts (fun _ h => List.mem_cons_of_mem _ (List.mem_append_right _ h)) hown hK hP 0 rfl rfl 0 (by decide) (hts (.fieldLink RX10 7 "LineCitesModel" "now" "[I") (List.mem_of_getElem? (i := 1) rfl)) (fun _ h9 => h9) rfl dX10_allStretches_16 ?_
    refine lv_iconst (v := 3) hx hb dX10_allStretches_19 (by decide) ?_
    refine lv_iload_n hx hb dX10_allStretches_20 rfl (lv_at hl 2 rfl) ?_
    refine lv_iadd hx hb dX10_allStretches_21 ?_
    refine lv_topi (fun x33 ex33 => ?_)
    have tx33 : x33.toInt = 3 + v24.toInt := pw_addX ex33 (by decide) rfl (by omega) (by omega)
    refine va_iald hx hb hK hP 1 0 rfl rfl (vp_in_iff.mpr ⟨by omega, by omega⟩) dX10_allStretches_22 ?_
    refine lv_topi (fun x34 ex34 => ?_)
    refine lv_iadd hx hb dX10_allStretches_23 ?_
    refine lv_topi (fun x35 ex35 => ?_)
    refine lv_istore_n (lv' := [(1, .int x35), (0, .ref h0), (2, .int v24)]) hx hb dX10_allStretches_24 rfl hl (by decide) rfl (fun ls hl => ?_)
    obtain ⟨x36, ex36⟩ : ∃ y : Int32, y = v24 + 1 := ⟨_, rfl⟩
    have tx36 : x36.toInt = v24.toInt + 1 := pw_addX ex36 rfl (by decide) (by omega) (by omega)
    refine lv_iinc (v := x36) (lv' := [(2, .int x36), (1, .int x35), (0, .ref h0)]) hx hb dX10_allStretches_25 hl (k := 2) rfl (by rw [ex36]; rfl) (by decide) rfl (fun ls hl => ?_)
    refine lv_goto (tgt := 4) hx hb dX10_allStretches_28 (by decide) ?_
    have hP9 : va_P D vwCl [(h0, .inr (10, [.ref m_now, .ref m_draft, .ref m_past, .int j_acts, .ref m_images, .ref m_kept, .ref m_tape, .int j_taped, .int j_at, .int j_start, .int j_token, .int j_value, .int j_fault, .int j_place, .int j_latest, .ref m_low, .ref m_high, .ref m_first, .ref m_second, .ref m_lines, .ref m_others, .int j_shiftFirst, .int j_shiftMany, .int j_shiftLow, .int j_shiftHigh])), (m_now, .inl (kI, 192, .inl g_now))] H := hP.sub [0, 1] rfl
    have hl9 : lv_has ls 3 [(0, .ref h0), (1, .int x35), (2, .int x36)] := lv_sub hl [2, 1, 0] rfl
    refine W.widen (k := 0) (n := 0) (Nat.le_of_ble_eq_true rfl) (Nat.le_of_ble_eq_true rfl) ?_
    exact ih25 (x35, x36) _ _ _ (pw_up ex36 (by omega)) ⟨hP9, hS, hl9, (pw_upge ex36 (by omega) (by omega))⟩
def w_X10_lastOf : List Cond := .code yX10_lastOf cX10_lastOf 2 (some .int) :: ([.methodLink RX10 215 yX10_cited, .instanceMethod yX10_cited, .selects RX10 yX10_cited yX10_cited, .initialized RX10, .code yX10_cited cX10_cited 3 (some .int), .fieldLink RX10 7 "LineCitesModel" "now" "[I"] ++ wsX100)
set_option maxRecDepth 20000 in
theorem g_X10_lastOf_X10_cited : GoodIn w_X10_lastOf (wsV RX10 215 RX10 yX10_cited w_X10_cited) := goodIn_r _ [1, 2, 3, 4, 5, 6, 7, 8, 9, 10, 11, 12, 13, 14, 15, 16, 17, 18, 19, 20, 21, 22, 23, 24, 25, 26, 27, 28, 29, 30, 31] rfl (by decide +kernel)
set_option maxHeartbeats 4000000 in
set_option maxRecDepth 100000 in
theorem c_X10_lastOf (l : Launch) (D : va_G) (h0 : Nat) (i_c : Int32) (m_now : Nat) (m_draft : Nat) (m_past : Nat) (j_acts : Int32) (m_images : Nat) (m_kept : Nat) (m_tape : Nat) (j_taped : Int32) (j_at : Int32) (j_start : Int32) (j_token : Int32) (j_value : Int32) (j_fault : Int32) (j_place : Int32) (j_latest : Int32) (m_low : Nat) (m_high : Nat) (m_first : Nat) (m_second : Nat) (m_lines : Nat) (m_others : Nat) (j_shiftFirst : Int32) (j_shiftMany : Int32) (j_shiftLow : Int32) (j_shiftHigh : Int32) (kI : ClassId) (g_now : Nat → Int32) (h0i_c : 0 ≤ i_c.toInt) (h1i_c : i_c.toInt ≤ 7) : Met l yX10_lastOf w_X10_lastOf ({ frames := 1, cells := 0, slots := 0, locals := 22 }) (va_Pc [.ref h0, .int i_c] (fun U => va_P D vwCl [(h0, .inr (10, [.ref m_now, .ref m_draft, .ref m_past, .int j_acts, .ref m_images, .ref m_kept, .ref m_tape, .int j_taped, .int j_at, .int j_start, .int j_token, .int j_value, .int j_fault, .int j_place, .int j_latest, .ref m_low, .ref m_high, .ref m_first, .ref m_second, .ref m_lines, .ref m_others, .int j_shiftFirst, .int j_shiftMany, .int j_shiftLow, .int j_shiftHigh])), (m_now, .inl (kI, 192, .inl g_now))] U.heap ∧ va_K D vwCl [(kI, .int)] U)) (va_Qi (fun (r : Int32) (_ : Unit) => True) (fun _ _ => True) (fun _ => False)) 0 0 (fun _ => False) := by
  refine Met.ofW (cc := cX10_lastOf) (maxL := 2) (ret := (some .int)) (by decide) rfl ?_
  intro p e s m args below meth c s₁ B hml hv
  obtain ⟨rfl, hP, hK⟩ := hv
  have hx := B.exec
  have hb := B.bytes
  have hr := B.returns
  have hts := atoms_spec (ws := w_X10_lastOf) B.pre
  have hown : s.vm.findClass RX10 = some m.cls := findClass_of_methodNamed B.named
  have hlocks := B.notSynchronized
  have hS : va_S (fun _ : Nat => False) s.heap s.heap [] := va_S.rf
  have hP : va_P D vwCl [(h0, .inr (10, [.ref m_now, .ref m_draft, .ref m_past, .int j_acts, .ref m_images, .ref m_kept, .ref m_tape, .int j_taped, .int j_at, .int j_start, .int j_token, .int j_value, .int j_fault, .int j_place, .int j_latest, .ref m_low, .ref m_high, .ref m_first, .ref m_second, .ref m_lines, .ref m_others, .int j_shiftFirst, .int j_shiftMany, .int j_shiftLow, .int j_shiftHigh])), (m_now, .inl (kI, 192, .inl g_now))] s.heap := hP
  have hl := lv_entry ([.ref h0, .int i_c]) (n := 2) (Nat.le_of_ble_eq_true rfl)
  rw [lg_entry_eq]
  generalize (lg_sl ([.ref h0, .int i_c]) ++ List.replicate (2 - (lg_sl ([.ref h0, .int i_c])).length) Slot.unset).toArray = ls at hl ⊢
  have hl : lv_has ls 2 [(0, .ref h0), (1, .int i_c)] := hl
  obtain ⟨H, hHe⟩ : ∃ H : Heap, H = s.heap := ⟨_, rfl⟩
  rw [← hHe] at hP
  have hS : va_S (fun _ : Nat => False) s.heap H [] := by rw [hHe]; exact hS
  refine pw_heap hHe ?_
  refine lv_aload_n hx hb dX10_lastOf_0 rfl (lv_at hl 0 rfl) ?_
  refine lv_iload_n hx hb dX10_lastOf_1 rfl (lv_at hl 1 rfl) ?_
  refine lv_iconst (v := 2) hx hb dX10_lastOf_2 (by decide) ?_
  have kk2 : (2 : Int32).toInt = 2 := by decide
  have hPc := hP.sub (ws' := [(h0, .inr (10, [.ref m_now, .ref m_draft, .ref m_past, .int j_acts, .ref m_images, .ref m_kept, .ref m_tape, .int j_taped, .int j_at, .int j_start, .int j_token, .int j_value, .int j_fault, .int j_place, .int j_latest, .ref m_low, .ref m_high, .ref m_first, .ref m_second, .ref m_lines, .ref m_others, .int j_shiftFirst, .int j_shiftMany, .int j_shiftLow, .int j_shiftHigh])), (m_now, .inl (kI, 192, .inl g_now))]) [0, 1] rfl
  have hKc := hK.sub (tys' := [(kI, .int)]) [0] rfl
  refine va_calli (va_runV (As := [.int i_c, .int 2]) (rest := []) ⟨hx, hb, hml, hown, hts⟩ (c_X10_cited l D h0 i_c 2 m_now m_draft m_past j_acts m_images m_kept m_tape j_taped j_at j_start j_token j_value j_fault j_place j_latest m_low m_high m_first m_second m_lines m_others j_shiftFirst j_shiftMany j_shiftLow j_shiftHigh kI g_now i_c.toInt.toNat 2 (by first | decide | omega) (by first | decide | omega) (by first | decide | omega) (by first | decide | omega) (by first | omega | decide | (have hz0 : (0 : Int32).toInt = 0 := (by decide); omega)) (by first | omega | decide | (have hz0 : (0 : Int32).toInt = 0 := (by decide); omega))) (cwV 2 hts g_X10_lastOf_X10_cited rfl rfl rfl (by decide +kernel) ⟨Nat.le_of_ble_eq_true rfl, Nat.le_of_ble_eq_true rfl⟩) ⟨fun a U g mk q => by obtain ⟨q0, qP, qK⟩ := q; exact ⟨q0, qP, va_K.moved (u := U) (U := U.calling g mk a) (Vm.Alike.refl U.vm) qK⟩, va_recv hKc hPc (ci := 10) (q0 := 0) rfl rfl, fun U hU hW => ⟨rfl, by rw [hU]; exact hPc, va_K.moved hW.alike hKc⟩⟩ rfl rfl hl.1 rfl (lv_room (Nat.le_of_ble_eq_true rfl)) dX10_lastOf_3 ⟨Nat.le_of_ble_eq_true rfl, Nat.le_of_ble_eq_true rfl⟩) hS (fun _ _ h => h.elim) (fun _ h => h.elim) (fun r1 u t H1 locs ht hvm hw hB hz1 hk1 hS => ?_)
  have hP := pw_keep hP (fun q hq => hk1 q hq (fun h => h))
  generalize H1 = H at hP hS ⊢
  refine W.widen (k := 0) (n := 0) (Nat.le_of_ble_eq_true rfl) (Nat.le_of_ble_eq_true rfl) ?_
  have hfr1 := hw
  refine lv_if_ne (tgt := 18) hx hb dX10_lastOf_6 (by decide) (fun c2 => ?_) (fun c2 => ?_)
  · have nc2 : r1.toInt ≠ 0 := pw_ne c2 rfl (by decide)
    refine lv_aload_n hx hb dX10_lastOf_18 rfl (lv_at hl 0 rfl) ?_
    refine lv_iload_n hx hb dX10_lastOf_19 rfl (lv_at hl 1 rfl) ?_
    refine lv_iconst (v := 3) hx hb dX10_lastOf_20 (by decide) ?_
    have kk3 : (3 : Int32).toInt = 3 := by decide
    have hPc := hP.sub (ws' := [(h0, .inr (10, [.ref m_now, .ref m_draft, .ref m_past, .int j_acts, .ref m_images, .ref m_kept, .ref m_tape, .int j_taped, .int j_at, .int j_start, .int j_token, .int j_value, .int j_fault, .int j_place, .int j_latest, .ref m_low, .ref m_high, .ref m_first, .ref m_second, .ref m_lines, .ref m_others, .int j_shiftFirst, .int j_shiftMany, .int j_shiftLow, .int j_shiftHigh])), (m_now, .inl (kI, 192, .inl g_now))]) [0, 1] rfl
    have hKc := hK.sub (tys' := [(kI, .int)]) [0] rfl
    refine va_calli (va_runV (As := [.int i_c, .int 3]) (rest := []) ⟨hx, hb, hml, hown, hts⟩ (c_X10_cited l D h0 i_c 3 m_now m_draft m_past j_acts m_images m_kept m_tape j_taped j_at j_start j_token j_value j_fault j_place j_latest m_low m_high m_first m_second m_lines m_others j_shiftFirst j_shiftMany j_shiftLow j_shiftHigh kI g_now i_c.toInt.toNat 3 (by first | decide | omega) (by first | decide | omega) (by first | decide | omega) (by first | decide | omega) (by first | omega | decide | (have hz0 : (0 : Int32).toInt = 0 := (by decide); omega)) (by first | omega | decide | (have hz0 : (0 : Int32).toInt = 0 := (by decide); omega))) (cwV 2 hts g_X10_lastOf_X10_cited rfl rfl rfl (by decide +kernel) ⟨Nat.le_of_ble_eq_true rfl, Nat.le_of_ble_eq_true rfl⟩) ⟨fun a U g mk q => by obtain ⟨q0, qP, qK⟩ := q; exact ⟨q0, qP, va_K.moved (u := U) (U := U.calling g mk a) (Vm.Alike.refl U.vm) qK⟩, va_recv hKc hPc (ci := 10) (q0 := 0) rfl rfl, fun U hU hW => ⟨rfl, by rw [hU]; exact hPc, va_K.moved hW.alike hKc⟩⟩ rfl rfl hl.1 rfl (lv_room (Nat.le_of_ble_eq_true rfl)) dX10_lastOf_21 ⟨Nat.le_of_ble_eq_true rfl, Nat.le_of_ble_eq_true rfl⟩) hS (fun _ _ h => h.elim) (fun _ h => h.elim) (fun r3 u t H1 locs ht hvm hw hB hz1 hk1 hS => ?_)
    have hP := pw_keep hP (fun q hq => hk1 q hq (fun h => h))
    generalize H1 = H at hP hS ⊢
    refine W.widen (k := 0) (n := 0) (Nat.le_of_ble_eq_true rfl) (Nat.le_of_ble_eq_true rfl) ?_
    have hfr3 := hw
    refine lv_aload_n hx hb dX10_lastOf_24 rfl (lv_at hl 0 rfl) ?_
    refine lv_iload_n hx hb dX10_lastOf_25 rfl (lv_at hl 1 rfl) ?_
    refine lv_iconst (v := 2) hx hb dX10_lastOf_26 (by decide) ?_
    have kk2 : (2 : Int32).toInt = 2 := by decide
    have hPc := hP.sub (ws' := [(h0, .inr (10, [.ref m_now, .ref m_draft, .ref m_past, .int j_acts, .ref m_images, .ref m_kept, .ref m_tape, .int j_taped, .int j_at, .int j_start, .int j_token, .int j_value, .int j_fault, .int j_place, .int j_latest, .ref m_low, .ref m_high, .ref m_first, .ref m_second, .ref m_lines, .ref m_others, .int j_shiftFirst, .int j_shiftMany, .int j_shiftLow, .int j_shiftHigh])), (m_now, .inl (kI, 192, .inl g_now))]) [0, 1] rfl
    have hKc := hK.sub (tys' := [(kI, .int)]) [0] rfl
    refine va_calli (va_runV (As := [.int i_c, .int 2]) (rest := [.int r3]) ⟨hx, hb, hml, hown, hts⟩ (c_X10_cited l D h0 i_c 2 m_now m_draft m_past j_acts m_images m_kept m_tape j_taped j_at j_start j_token j_value j_fault j_place j_latest m_low m_high m_first m_second m_lines m_others j_shiftFirst j_shiftMany j_shiftLow j_shiftHigh kI g_now i_c.toInt.toNat 2 (by first | decide | omega) (by first | decide | omega) (by first | decide | omega) (by first | decide | omega) (by first | omega | decide | (have hz0 : (0 : Int32).toInt = 0 := (by decide); omega)) (by first | omega | decide | (have hz0 : (0 : Int32).toInt = 0 := (by decide); omega))) (cwV 2 hts g_X10_lastOf_X10_cited rfl rfl rfl (by decide +kernel) ⟨Nat.le_of_ble_eq_true rfl, Nat.le_of_ble_eq_true rfl⟩) ⟨fun a U g mk q => by obtain ⟨q0, qP, qK⟩ := q; exact ⟨q0, qP, va_K.moved (u := U) (U := U.calling g mk a) (Vm.Alike.refl U.vm) qK⟩, va_recv hKc hPc (ci := 10) (q0 := 0) rfl rfl, fun U hU hW => ⟨rfl, by rw [hU]; exact hPc, va_K.moved hW.alike hKc⟩⟩ rfl rfl hl.1 rfl (lv_room (Nat.le_of_ble_eq_true rfl)) dX10_lastOf_27 ⟨Nat.le_of_ble_eq_true rfl, Nat.le_of_ble_eq_true rfl⟩) hS (fun _ _ h => h.elim) (fun _ h => h.elim) (fun r4 u t H1 locs ht hvm hw hB hz1 hk1 hS => ?_)
    have hP := pw_keep hP (fun q hq => hk1 q hq (fun h => h))
    generalize H1 = H at hP hS ⊢
    refine W.widen (k := 0) (n := 0) (Nat.le_of_ble_eq_true rfl) (Nat.le_of_ble_eq_true rfl) ?_
    have hfr4 := hw
    refine lv_iadd hx hb dX10_lastOf_30 ?_
    refine lv_topi (fun x5 ex5 => ?_)
    exact W.iret (v := x5) hx hb hr (fun t ht hW => ⟨⟨x5, (), rfl, trivial, trivial⟩, hS.F ht⟩) hS.2.2 dX10_lastOf_31
  · have nc2 : r1.toInt = 0 := pw_eq c2 rfl (by decide)
    refine lv_aload_n hx hb dX10_lastOf_9 rfl (lv_at hl 0 rfl) ?_
    refine lv_iload_n hx hb dX10_lastOf_10 rfl (lv_at hl 1 rfl) ?_
    refine lv_iconst (v := 4) hx hb dX10_lastOf_11 (by decide) ?_
    have kk4 : (4 : Int32).toInt = 4 := by decide
    have hPc := hP.sub (ws' := [(h0, .inr (10, [.ref m_now, .ref m_draft, .ref m_past, .int j_acts, .ref m_images, .ref m_kept, .ref m_tape, .int j_taped, .int j_at, .int j_start, .int j_token, .int j_value, .int j_fault, .int j_place, .int j_latest, .ref m_low, .ref m_high, .ref m_first, .ref m_second, .ref m_lines, .ref m_others, .int j_shiftFirst, .int j_shiftMany, .int j_shiftLow, .int j_shiftHigh])), (m_now, .inl (kI, 192, .inl g_now))]) [0, 1] rfl
    have hKc := hK.sub (tys' := [(kI, .int)]) [0] rfl
    refine va_calli (va_runV (As := [.int i_c, .int 4]) (rest := []) ⟨hx, hb, hml, hown, hts⟩ (c_X10_cited l D h0 i_c 4 m_now m_draft m_past j_acts m_images m_kept m_tape j_taped j_at j_start j_token j_value j_fault j_place j_latest m_low m_high m_first m_second m_lines m_others j_shiftFirst j_shiftMany j_shiftLow j_shiftHigh kI g_now i_c.toInt.toNat 4 (by first | decide | omega) (by first | decide | omega) (by first | decide | omega) (by first | decide | omega) (by first | omega | decide | (have hz0 : (0 : Int32).toInt = 0 := (by decide); omega)) (by first | omega | decide | (have hz0 : (0 : Int32).toInt = 0 := (by decide); omega))) (cwV 2 hts g_X10_lastOf_X10_cited rfl rfl rfl (by decide +kernel) ⟨Nat.le_of_ble_eq_true rfl, Nat.le_of_ble_eq_true rfl⟩) ⟨fun a U g mk q => by obtain ⟨q0, qP, qK⟩ := q; exact ⟨q0, qP, va_K.moved (u := U) (U := U.calling g mk a) (Vm.Alike.refl U.vm) qK⟩, va_recv hKc hPc (ci := 10) (q0 := 0) rfl rfl, fun U hU hW => ⟨rfl, by rw [hU]; exact hPc, va_K.moved hW.alike hKc⟩⟩ rfl rfl hl.1 rfl (lv_room (Nat.le_of_ble_eq_true rfl)) dX10_lastOf_12 ⟨Nat.le_of_ble_eq_true rfl, Nat.le_of_ble_eq_true rfl⟩) hS (fun _ _ h => h.elim) (fun _ h => h.elim) (fun r6 u t H1 locs ht hvm hw hB hz1 hk1 hS => ?_)
    have hP := pw_keep hP (fun q hq => hk1 q hq (fun h => h))
    generalize H1 = H at hP hS ⊢
    refine W.widen (k := 0) (n := 0) (Nat.le_of_ble_eq_true rfl) (Nat.le_of_ble_eq_true rfl) ?_
    have hfr6 := hw
    refine lv_goto (tgt := 31) hx hb dX10_lastOf_15 (by decide) ?_
    exact W.iret (v := r6) hx hb hr (fun t ht hW => ⟨⟨r6, (), rfl, trivial, trivial⟩, hS.F ht⟩) hS.2.2 dX10_lastOf_31
def w_X10_laysSpan : List Cond := .code yX10_laysSpan cX10_laysSpan 7 none :: ([.methodLink RX10 87 yX10_clears, .static yX10_clears, .initialized RX10, .code yX10_clears cX10_clears 2 none, .fieldLink RX10 7 "LineCitesModel" "now" "[I", .methodLink RX10 73 yX10_hasNumber, .instanceMethod yX10_hasNumber, .selects RX10 yX10_hasNumber yX10_hasNumber, .code yX10_hasNumber cX10_hasNumber 3 (some .boolean), .fieldLink RX10 29 "LineCitesModel" "low" "[I", .methodLink RX10 51 yX10_in0, .static yX10_in0, .code yX10_in0 cX10_in0 6 (some .boolean), .fieldLink RX10 32 "LineCitesModel" "high" "[I"] ++ wsX100)
set_option maxRecDepth 20000 in
theorem g_X10_laysSpan_X10_clears__2 : GoodIn w_X10_laysSpan (wsS RX10 87 yX10_clears w_X10_clears__2) := goodIn_r _ [1, 2, 3, 4] rfl (by decide +kernel)
set_option maxRecDepth 20000 in
theorem g_X10_laysSpan_X10_hasNumber : GoodIn w_X10_laysSpan (wsV RX10 73 RX10 yX10_hasNumber w_X10_hasNumber) := goodIn_r _ [6, 7, 8, 3, 9, 10, 15, 16, 17, 18, 19, 20, 21, 22, 23, 24, 25, 26, 27, 28, 29, 30, 31, 32, 33, 34, 35, 36, 37, 38, 39] rfl (by decide +kernel)
set_option maxRecDepth 20000 in
theorem g_X10_laysSpan_X10_in0 : GoodIn w_X10_laysSpan (wsS RX10 51 yX10_in0 w_X10_in0) := goodIn_r _ [11, 12, 3, 13] rfl (by decide +kernel)
set_option maxHeartbeats 4000000 in
set_option maxRecDepth 100000 in
theorem c_X10_laysSpan (l : Launch) (D : va_G) (h0 : Nat) (i_e : Int32) (i_fr : Int32) (i_to : Int32) (b : Nat) (m_now : Nat) (m_draft : Nat) (m_past : Nat) (j_acts : Int32) (m_images : Nat) (m_kept : Nat) (m_tape : Nat) (j_taped : Int32) (j_at : Int32) (j_start : Int32) (j_token : Int32) (j_value : Int32) (j_fault : Int32) (j_place : Int32) (j_latest : Int32) (m_low : Nat) (m_high : Nat) (m_first : Nat) (m_second : Nat) (m_lines : Nat) (m_others : Nat) (j_shiftFirst : Int32) (j_shiftMany : Int32) (j_shiftLow : Int32) (j_shiftHigh : Int32) (kI : ClassId) (g_now : Nat → Int32) (g_low : Nat → Int32) (g_high : Nat → Int32) (kZ : ClassId) (g_b : Nat → Int32) (sz : Nat) (h0i_e : 0 ≤ i_e.toInt) (h1i_e : i_e.toInt ≤ 4) (hg_now : gV g_now) (hg_low : bP g_low) (hg_high : bP g_high) : Met l yX10_laysSpan w_X10_laysSpan ({ frames := 1, cells := 0, slots := 0, locals := 25 }) (va_Pc [.ref h0, .int i_e, .int i_fr, .int i_to, .ref b] (fun U => U.heap.size = sz ∧ va_P D vwCl [(h0, .inr (10, [.ref m_now, .ref m_draft, .ref m_past, .int j_acts, .ref m_images, .ref m_kept, .ref m_tape, .int j_taped, .int j_at, .int j_start, .int j_token, .int j_value, .int j_fault, .int j_place, .int j_latest, .ref m_low, .ref m_high, .ref m_first, .ref m_second, .ref m_lines, .ref m_others, .int j_shiftFirst, .int j_shiftMany, .int j_shiftLow, .int j_shiftHigh])), (m_now, .inl (kI, 192, .inl g_now)), (m_low, .inl (kI, 1000, .inl g_low)), (m_high, .inl (kI, 1000, .inl g_high)), (b, .inl (kZ, 200, .inl g_b))] U.heap ∧ va_K D vwCl [(kI, .int), (kZ, .boolean)] U ∧ va_D (fun _ => True) [(h0, .inr (10, [.ref m_now, .ref m_draft, .ref m_past, .int j_acts, .ref m_images, .ref m_kept, .ref m_tape, .int j_taped, .int j_at, .int j_start, .int j_token, .int j_value, .int j_fault, .int j_place, .int j_latest, .ref m_low, .ref m_high, .ref m_first, .ref m_second, .ref m_lines, .ref m_others, .int j_shiftFirst, .int j_shiftMany, .int j_shiftLow, .int j_shiftHigh])), (m_now, .inl (kI, 192, .inl g_now)), (m_low, .inl (kI, 1000, .inl g_low)), (m_high, .inl (kI, 1000, .inl g_high)), (b, .inl (kZ, 200, .inl g_b))])) (va_Qv (fun (_ : Unit) => True) (fun (_ : Unit) t => ∃ (n_b : Nat → Int32), va_P D vwCl [(h0, .inr (10, [.ref m_now, .ref m_draft, .ref m_past, .int j_acts, .ref m_images, .ref m_kept, .ref m_tape, .int j_taped, .int j_at, .int j_start, .int j_token, .int j_value, .int j_fault, .int j_place, .int j_latest, .ref m_low, .ref m_high, .ref m_first, .ref m_second, .ref m_lines, .ref m_others, .int j_shiftFirst, .int j_shiftMany, .int j_shiftLow, .int j_shiftHigh])), (m_now, .inl (kI, 192, .inl g_now)), (m_low, .inl (kI, 1000, .inl g_low)), (m_high, .inl (kI, 1000, .inl g_high)), (b, .inl (kZ, 200, .inl n_b))] t.heap ∧ va_K D vwCl [(kI, .int), (kZ, .boolean)] t ∧ va_D (va_A [(h0, .inr (10, [.ref m_now, .ref m_draft, .ref m_past, .int j_acts, .ref m_images, .ref m_kept, .ref m_tape, .int j_taped, .int j_at, .int j_start, .int j_token, .int j_value, .int j_fault, .int j_place, .int j_latest, .ref m_low, .ref m_high, .ref m_first, .ref m_second, .ref m_lines, .ref m_others, .int j_shiftFirst, .int j_shiftMany, .int j_shiftLow, .int j_shiftHigh])), (m_now, .inl (kI, 192, .inl g_now)), (m_low, .inl (kI, 1000, .inl g_low)), (m_high, .inl (kI, 1000, .inl g_high)), (b, .inl (kZ, 200, .inl g_b))] sz) [(h0, .inr (10, [.ref m_now, .ref m_draft, .ref m_past, .int j_acts, .ref m_images, .ref m_kept, .ref m_tape, .int j_taped, .int j_at, .int j_start, .int j_token, .int j_value, .int j_fault, .int j_place, .int j_latest, .ref m_low, .ref m_high, .ref m_first, .ref m_second, .ref m_lines, .ref m_others, .int j_shiftFirst, .int j_shiftMany, .int j_shiftLow, .int j_shiftHigh])), (m_now, .inl (kI, 192, .inl g_now)), (m_low, .inl (kI, 1000, .inl g_low)), (m_high, .inl (kI, 1000, .inl g_high)), (b, .inl (kZ, 200, .inl n_b))]) (va_A [(h0, .inr (10, [.ref m_now, .ref m_draft, .ref m_past, .int j_acts, .ref m_images, .ref m_kept, .ref m_tape, .int j_taped, .int j_at, .int j_start, .int j_token, .int j_value, .int j_fault, .int j_place, .int j_latest, .ref m_low, .ref m_high, .ref m_first, .ref m_second, .ref m_lines, .ref m_others, .int j_shiftFirst, .int j_shiftMany, .int j_shiftLow, .int j_shiftHigh])), (m_now, .inl (kI, 192, .inl g_now)), (m_low, .inl (kI, 1000, .inl g_low)), (m_high, .inl (kI, 1000, .inl g_high)), (b, .inl (kZ, 200, .inl g_b))] sz)) 0 0 (va_A [(h0, .inr (10, [.ref m_now, .ref m_draft, .ref m_past, .int j_acts, .ref m_images, .ref m_kept, .ref m_tape, .int j_taped, .int j_at, .int j_start, .int j_token, .int j_value, .int j_fault, .int j_place, .int j_latest, .ref m_low, .ref m_high, .ref m_first, .ref m_second, .ref m_lines, .ref m_others, .int j_shiftFirst, .int j_shiftMany, .int j_shiftLow, .int j_shiftHigh])), (m_now, .inl (kI, 192, .inl g_now)), (m_low, .inl (kI, 1000, .inl g_low)), (m_high, .inl (kI, 1000, .inl g_high)), (b, .inl (kZ, 200, .inl g_b))] sz) := by
  refine Met.ofW (cc := cX10_laysSpan) (maxL := 7) (ret := none) (by decide) rfl ?_
  intro p e s m args below meth c s₁ B hml hv
  obtain ⟨rfl, hsz, hP, hK, hD0⟩ := hv
  have hx := B.exec
  have hb := B.bytes
  have hr := B.returns
  have hts := atoms_spec (ws := w_X10_laysSpan) B.pre
  have hown : s.vm.findClass RX10 = some m.cls := findClass_of_methodNamed B.named
  have hlocks := B.notSynchronized
  subst hsz
  have hD := hD0.self (sz := s.heap.size)
  generalize hAe : va_A [(h0, .inr (10, [.ref m_now, .ref m_draft, .ref m_past, .int j_acts, .ref m_images, .ref m_kept, .ref m_tape, .int j_taped, .int j_at, .int j_start, .int j_token, .int j_value, .int j_fault, .int j_place, .int j_latest, .ref m_low, .ref m_high, .ref m_first, .ref m_second, .ref m_lines, .ref m_others, .int j_shiftFirst, .int j_shiftMany, .int j_shiftLow, .int j_shiftHigh])), (m_now, .inl (kI, 192, .inl g_now)), (m_low, .inl (kI, 1000, .inl g_low)), (m_high, .inl (kI, 1000, .inl g_high)), (b, .inl (kZ, 200, .inl g_b))] s.heap.size = A at hD ⊢
  have hA : ∀ q : Nat, s.heap.size ≤ q → A q := fun q h => by rw [← hAe]; exact Or.inr h
  have hS : va_S A s.heap s.heap [] := va_S.rf
  have hP : va_P D vwCl [(h0, .inr (10, [.ref m_now, .ref m_draft, .ref m_past, .int j_acts, .ref m_images, .ref m_kept, .ref m_tape, .int j_taped, .int j_at, .int j_start, .int j_token, .int j_value, .int j_fault, .int j_place, .int j_latest, .ref m_low, .ref m_high, .ref m_first, .ref m_second, .ref m_lines, .ref m_others, .int j_shiftFirst, .int j_shiftMany, .int j_shiftLow, .int j_shiftHigh])), (m_now, .inl (kI, 192, .inl g_now)), (m_low, .inl (kI, 1000, .inl g_low)), (m_high, .inl (kI, 1000, .inl g_high)), (b, .inl (kZ, 200, .inl g_b))] s.heap := hP
  have hl := lv_entry ([.ref h0, .int i_e, .int i_fr, .int i_to, .ref b]) (n := 7) (Nat.le_of_ble_eq_true rfl)
  rw [lg_entry_eq]
  generalize (lg_sl ([.ref h0, .int i_e, .int i_fr, .int i_to, .ref b]) ++ List.replicate (7 - (lg_sl ([.ref h0, .int i_e, .int i_fr, .int i_to, .ref b])).length) Slot.unset).toArray = ls at hl ⊢
  have hl : lv_has ls 7 [(0, .ref h0), (1, .int i_e), (2, .int i_fr), (3, .int i_to), (4, .ref b)] := hl
  obtain ⟨H, hHe⟩ : ∃ H : Heap, H = s.heap := ⟨_, rfl⟩
  rw [← hHe] at hP
  have hS : va_S A s.heap H [] := by rw [hHe]; exact hS
  refine pw_heap hHe ?_
  refine lv_aload hx hb dX10_laysSpan_0 (lv_at hl 4 rfl) ?_
  have hPc := hP.sub (ws' := [(b, .inl (kZ, 200, .inl g_b))]) [4] rfl
  have hKc := hK.sub (tys' := [(kZ, .boolean)]) [1] rfl
  have hDc := hD.sub (ws' := [(b, .inl (kZ, 200, .inl g_b))]) [4] (by decide) rfl
  have hFc := va_free (wc := [(b, .inl (kZ, 200, .inl g_b))]) hD hS hA [4] rfl
  refine va_callv (va_runS (As := [.ref b]) (rest := []) ⟨hx, hb, hml, hown, hts⟩ (c_X10_clears__2 l D b kZ g_b H.size) (cwS 1 hts g_X10_laysSpan_X10_clears__2 rfl rfl rfl (by decide +kernel) ⟨Nat.le_of_ble_eq_true rfl, Nat.le_of_ble_eq_true rfl⟩) ⟨fun a U g mk q => by obtain ⟨q0, q1, qP, qK, qD⟩ := q; exact ⟨q0, q1, qP, va_K.moved (u := U) (U := U.calling g mk a) (Vm.Alike.refl U.vm) qK, qD⟩, fun U hU hW => ⟨rfl, by rw [hU], by rw [hU]; exact hPc, va_K.moved hW.alike hKc, hDc.weaken (fun _ _ _ _ => trivial)⟩⟩ rfl rfl hl.1 rfl (lv_room (Nat.le_of_ble_eq_true rfl)) dX10_laysSpan_2 ⟨Nat.le_of_ble_eq_true rfl, Nat.le_of_ble_eq_true rfl⟩) hS (fun q _ h => hFc q h) hFc (fun u t H1 locs ht hvm hw hB hz1 hk1 hS => ?_)
  obtain ⟨y2, hP1, hK1, hD1⟩ := hB
  rw [ht] at hP1
  have hK1 := va_K.moved hvm.symm hK1
  obtain ⟨hP, hD⟩ := va_join (wr := [(h0, .inr (10, [.ref m_now, .ref m_draft, .ref m_past, .int j_acts, .ref m_images, .ref m_kept, .ref m_tape, .int j_taped, .int j_at, .int j_start, .int j_token, .int j_value, .int j_fault, .int j_place, .int j_latest, .ref m_low, .ref m_high, .ref m_first, .ref m_second, .ref m_lines, .ref m_others, .int j_shiftFirst, .int j_shiftMany, .int j_shiftLow, .int j_shiftHigh])), (m_now, .inl (kI, 192, .inl g_now)), (m_low, .inl (kI, 1000, .inl g_low)), (m_high, .inl (kI, 1000, .inl g_high))]) (w1 := [(b, .inl (kZ, 200, .inl y2))]) hP hD [4] [0, 1, 2, 3] rfl rfl (by decide) (by decide) hk1 hFc hP1 hD1
  have hK := (hK.sub (tys' := [(kI, .int), (kZ, .boolean)]) [0, 1] rfl).app hK1
  generalize H1 = H at hP hS ⊢
  have hP : va_P D vwCl [(h0, .inr (10, [.ref m_now, .ref m_draft, .ref m_past, .int j_acts, .ref m_images, .ref m_kept, .ref m_tape, .int j_taped, .int j_at, .int j_start, .int j_token, .int j_value, .int j_fault, .int j_place, .int j_latest, .ref m_low, .ref m_high, .ref m_first, .ref m_second, .ref m_lines, .ref m_others, .int j_shiftFirst, .int j_shiftMany, .int j_shiftLow, .int j_shiftHigh])), (m_now, .inl (kI, 192, .inl g_now)), (m_low, .inl (kI, 1000, .inl g_low)), (m_high, .inl (kI, 1000, .inl g_high)), (b, .inl (kZ, 200, .inl y2))] H := hP
  have hD : va_D A [(h0, .inr (10, [.ref m_now, .ref m_draft, .ref m_past, .int j_acts, .ref m_images, .ref m_kept, .ref m_tape, .int j_taped, .int j_at, .int j_start, .int j_token, .int j_value, .int j_fault, .int j_place, .int j_latest, .ref m_low, .ref m_high, .ref m_first, .ref m_second, .ref m_lines, .ref m_others, .int j_shiftFirst, .int j_shiftMany, .int j_shiftLow, .int j_shiftHigh])), (m_now, .inl (kI, 192, .inl g_now)), (m_low, .inl (kI, 1000, .inl g_low)), (m_high, .inl (kI, 1000, .inl g_high)), (b, .inl (kZ, 200, .inl y2))] := hD
  have hK : va_K D vwCl [(kI, .int), (kZ, .boolean), (kZ, .boolean)] s := hK
  refine W.widen (k := 0) (n := 0) (Nat.le_of_ble_eq_true rfl) (Nat.le_of_ble_eq_true rfl) ?_
  refine lv_iconst (v := 0) hx hb dX10_laysSpan_5 (by decide) ?_
  refine lv_istore (lv' := [(5, .int 0), (0, .ref h0), (1, .int i_e), (2, .int i_fr), (3, .int i_to), (4, .ref b)]) hx hb dX10_laysSpan_6 hl (by decide) rfl (fun ls hl => ?_)
  have hl9 : lv_has ls 7 [(0, .ref h0), (1, .int i_e), (2, .int i_fr), (3, .int i_to), (4, .ref b), (5, .int 0)] := lv_sub hl [1, 2, 3, 4, 5, 0] rfl
  refine pw_loop (fun (zz : Int32 × (Nat → Int32)) H locs ls => match zz with | (v50, f51) => va_P D vwCl [(h0, .inr (10, [.ref m_now, .ref m_draft, .ref m_past, .int j_acts, .ref m_images, .ref m_kept, .ref m_tape, .int j_taped, .int j_at, .int j_start, .int j_token, .int j_value, .int j_fault, .int j_place, .int j_latest, .ref m_low, .ref m_high, .ref m_first, .ref m_second, .ref m_lines, .ref m_others, .int j_shiftFirst, .int j_shiftMany, .int j_shiftLow, .int j_shiftHigh])), (m_now, .inl (kI, 192, .inl g_now)), (m_low, .inl (kI, 1000, .inl g_low)), (m_high, .inl (kI, 1000, .inl g_high)), (b, .inl (kZ, 200, .inl f51))] H ∧ va_D A [(h0, .inr (10, [.ref m_now, .ref m_draft, .ref m_past, .int j_acts, .ref m_images, .ref m_kept, .ref m_tape, .int j_taped, .int j_at, .int j_start, .int j_token, .int j_value, .int j_fault, .int j_place, .int j_latest, .ref m_low, .ref m_high, .ref m_first, .ref m_second, .ref m_lines, .ref m_others, .int j_shiftFirst, .int j_shiftMany, .int j_shiftLow, .int j_shiftHigh])), (m_now, .inl (kI, 192, .inl g_now)), (m_low, .inl (kI, 1000, .inl g_low)), (m_high, .inl (kI, 1000, .inl g_high)), (b, .inl (kZ, 200, .inl f51))] ∧ va_S A s.heap H locs ∧ lv_has ls 7 [(0, .ref h0), (1, .int i_e), (2, .int i_fr), (3, .int i_to), (4, .ref b), (5, .int v50)] ∧ 0 ≤ v50.toInt) (fun (zz : Int32 × (Nat → Int32))  => match zz with | (v50, f51) => (2147483648 - v50.toInt).toNat) 0 0 (fun (zz : Int32 × (Nat → Int32)) ls => match zz with | (v50, f51) => F0 m 8 ls []) (fun zz H locs ls ih52 hI => ?_) (0, y2) _ _ _ ⟨hP, hD, hS, hl9, (by decide)⟩
  obtain ⟨v50, f51⟩ := zz
  obtain ⟨hP, hD, hS, hl, bv50⟩ := hI
  have bv50 : 0 ≤ v50.toInt := bv50
  have hP : va_P D vwCl [(h0, .inr (10, [.ref m_now, .ref m_draft, .ref m_past, .int j_acts, .ref m_images, .ref m_kept, .ref m_tape, .int j_taped, .int j_at, .int j_start, .int j_token, .int j_value, .int j_fault, .int j_place, .int j_latest, .ref m_low, .ref m_high, .ref m_first, .ref m_second, .ref m_lines, .ref m_others, .int j_shiftFirst, .int j_shiftMany, .int j_shiftLow, .int j_shiftHigh])), (m_now, .inl (kI, 192, .inl g_now)), (m_low, .inl (kI, 1000, .inl g_low)), (m_high, .inl (kI, 1000, .inl g_high)), (b, .inl (kZ, 200, .inl f51))] H := hP
  have hD : va_D A [(h0, .inr (10, [.ref m_now, .ref m_draft, .ref m_past, .int j_acts, .ref m_images, .ref m_kept, .ref m_tape, .int j_taped, .int j_at, .int j_start, .int j_token, .int j_value, .int j_fault, .int j_place, .int j_latest, .ref m_low, .ref m_high, .ref m_first, .ref m_second, .ref m_lines, .ref m_others, .int j_shiftFirst, .int j_shiftMany, .int j_shiftLow, .int j_shiftHigh])), (m_now, .inl (kI, 192, .inl g_now)), (m_low, .inl (kI, 1000, .inl g_low)), (m_high, .inl (kI, 1000, .inl g_high)), (b, .inl (kZ, 200, .inl f51))] := hD
  have hK : va_K D vwCl [(kI, .int), (kZ, .boolean), (kZ, .boolean)] s := hK
  have hl : lv_has ls 7 [(0, .ref h0), (1, .int i_e), (2, .int i_fr), (3, .int i_to), (4, .ref b), (5, .int v50)] := hl
  refine W.eq (g2 := F0 m 8 ls []) rfl ?_
  refine lv_iload hx hb dX10_laysSpan_8 (lv_at hl 5 rfl) ?_
  refine lv_aload_n hx hb dX10_laysSpan_10 rfl (lv_at hl 0 rfl) ?_
  refine va_get (D := D) (ci := 10) (v := .ref m_now) (C := RX10) (T := TX10) (N := 25) hx hb hts (fun _ h => List.mem_cons_of_mem _ (List.mem_append_right _ h)) hown hK hP 0 rfl rfl 0 (by decide) (hts (.fieldLink RX10 7 "LineCitesModel" "now" "[I") (List.mem_of_getElem? (i := 5) rfl)) (fun _ h9 => h9) rfl dX10_laysSpan_11 ?_
  refine lv_iconst (v := 0) hx hb dX10_laysSpan_14 (by decide) ?_
  refine va_iald hx hb hK hP 1 0 rfl rfl (vp_in_iff.mpr (by decide)) dX10_laysSpan_15 ?_
  refine lv_topi (fun x53 ex53 => ?_)
  have nx53 : 0 ≤ x53.toInt ∧ x53.toInt ≤ 200 := gV_0 hg_now ex53
  have zx53 := gV_00 ex53
  refine lv_icmp_ge (tgt := 91) hx hb dX10_laysSpan_16 (by decide) (fun c54 => ?_) (fun c54 => ?_)
  · have nc54 : x53.toInt ≤ v50.toInt := pw_le c54 rfl rfl
    have mc54v50 := pw_max v50
    have mc54x53 := pw_max x53
    have hP9 := hP.sub (ws' := [(h0, .inr (10, [.ref m_now, .ref m_draft, .ref m_past, .int j_acts, .ref m_images, .ref m_kept, .ref m_tape, .int j_taped, .int j_at, .int j_start, .int j_token, .int j_value, .int j_fault, .int j_place, .int j_latest, .ref m_low, .ref m_high, .ref m_first, .ref m_second, .ref m_lines, .ref m_others, .int j_shiftFirst, .int j_shiftMany, .int j_shiftLow, .int j_shiftHigh])), (m_now, .inl (kI, 192, .inl g_now)), (m_low, .inl (kI, 1000, .inl g_low)), (m_high, .inl (kI, 1000, .inl g_high)), (b, .inl (kZ, 200, .inl f51))]) [0, 1, 2, 3, 4] rfl
    have hD9 := hD.sub (ws' := [(h0, .inr (10, [.ref m_now, .ref m_draft, .ref m_past, .int j_acts, .ref m_images, .ref m_kept, .ref m_tape, .int j_taped, .int j_at, .int j_start, .int j_token, .int j_value, .int j_fault, .int j_place, .int j_latest, .ref m_low, .ref m_high, .ref m_first, .ref m_second, .ref m_lines, .ref m_others, .int j_shiftFirst, .int j_shiftMany, .int j_shiftLow, .int j_shiftHigh])), (m_now, .inl (kI, 192, .inl g_now)), (m_low, .inl (kI, 1000, .inl g_low)), (m_high, .inl (kI, 1000, .inl g_high)), (b, .inl (kZ, 200, .inl f51))]) [0, 1, 2, 3, 4] (by decide) rfl
    have hK9 := hK.sub (tys' := [(kI, .int), (kZ, .boolean)]) [0, 1] rfl
    refine W.widen (k := 0) (n := 0) (Nat.le_of_ble_eq_true rfl) (Nat.le_of_ble_eq_true rfl) ?_
    exact W.vret hx hb hr (fun t ht hW => ⟨⟨(), rfl, trivial, f51, by rw [ht]; exact hP9, va_K.moved hW.alike hK9, hD9⟩, hS.F ht⟩) hS.2.2 dX10_laysSpan_91
  · have nc54 : v50.toInt < x53.toInt := pw_nle c54 rfl rfl
    have mc54v50 := pw_max v50
    have mc54x53 := pw_max x53
    refine lv_sipush (v := 200) hx hb dX10_laysSpan_19 (by decide) ?_
    refine lv_iload_n hx hb dX10_laysSpan_22 rfl (lv_at hl 1 rfl) ?_
    refine lv_imul hx hb dX10_laysSpan_23 ?_
    refine lv_topi (fun x55 ex55 => ?_)
    have tx55 : x55.toInt = 200 * i_e.toInt := pw_mulX ex55 (by decide) rfl (by omega) (by omega)
    refine lv_iload hx hb dX10_laysSpan_24 (lv_at hl 5 rfl) ?_
    refine lv_iadd hx hb dX10_laysSpan_26 ?_
    refine lv_topi (fun x56 ex56 => ?_)
    have tx56 : x56.toInt = x55.toInt + v50.toInt := pw_addX ex56 rfl rfl (by omega) (by omega)
    refine lv_istore (lv' := [(6, .int x56), (0, .ref h0), (1, .int i_e), (2, .int i_fr), (3, .int i_to), (4, .ref b), (5, .int v50)]) hx hb dX10_laysSpan_27 hl (by decide) rfl (fun ls hl => ?_)
    refine lv_aload hx hb dX10_laysSpan_29 (lv_at hl 5 rfl) ?_
    refine lv_iload hx hb dX10_laysSpan_31 (lv_at hl 6 rfl) ?_
    refine lv_aload_n hx hb dX10_laysSpan_33 rfl (lv_at hl 1 rfl) ?_
    refine lv_iload_n hx hb dX10_laysSpan_34 rfl (lv_at hl 2 rfl) ?_
    refine lv_iload hx hb dX10_laysSpan_35 (lv_at hl 6 rfl) ?_
    have hPc := hP.sub (ws' := [(h0, .inr (10, [.ref m_now, .ref m_draft, .ref m_past, .int j_acts, .ref m_images, .ref m_kept, .ref m_tape, .int j_taped, .int j_at, .int j_start, .int j_token, .int j_value, .int j_fault, .int j_place, .int j_latest, .ref m_low, .ref m_high, .ref m_first, .ref m_second, .ref m_lines, .ref m_others, .int j_shiftFirst, .int j_shiftMany, .int j_shiftLow, .int j_shiftHigh])), (m_low, .inl (kI, 1000, .inl g_low))]) [0, 2] rfl
    have hKc := hK.sub (tys' := [(kI, .int)]) [0] rfl
    refine va_calli (va_runV (As := [.int i_e, .int v50]) (rest := [.int v50, .ref b]) ⟨hx, hb, hml, hown, hts⟩ (c_X10_hasNumber l D h0 i_e v50 m_now m_draft m_past j_acts m_images m_kept m_tape j_taped j_at j_start j_token j_value j_fault j_place j_latest m_low m_high m_first m_second m_lines m_others j_shiftFirst j_shiftMany j_shiftLow j_shiftHigh kI g_low (by first | decide | omega) (by first | decide | omega) (by first | decide | omega) (by first | decide | omega) hg_low) (cwV 2 hts g_X10_laysSpan_X10_hasNumber rfl rfl rfl (by decide +kernel) ⟨Nat.le_of_ble_eq_true rfl, Nat.le_of_ble_eq_true rfl⟩) ⟨fun a U g mk q => by obtain ⟨q0, qP, qK⟩ := q; exact ⟨q0, qP, va_K.moved (u := U) (U := U.calling g mk a) (Vm.Alike.refl U.vm) qK⟩, va_recv hKc hPc (ci := 10) (q0 := 0) rfl rfl, fun U hU hW => ⟨rfl, by rw [hU]; exact hPc, va_K.moved hW.alike hKc⟩⟩ rfl rfl hl.1 rfl (lv_room (Nat.le_of_ble_eq_true rfl)) dX10_laysSpan_37 ⟨Nat.le_of_ble_eq_true rfl, Nat.le_of_ble_eq_true rfl⟩) hS (fun _ _ h => h.elim) (fun _ h => h.elim) (fun r57 u t H1 locs ht hvm hw hB hz1 hk1 hS => ?_)
    have hP := pw_keep hP (fun q hq => hk1 q hq (fun h => h))
    generalize H1 = H at hP hS ⊢
    refine W.widen (k := 0) (n := 0) (Nat.le_of_ble_eq_true rfl) (Nat.le_of_ble_eq_true rfl) ?_
    have bor57 := hw.1
    have zor57 := pw_boolI bor57
    refine pw_join (fun (v65 : Int32) H locs ls => va_P D vwCl [(h0, .inr (10, [.ref m_now, .ref m_draft, .ref m_past, .int j_acts, .ref m_images, .ref m_kept, .ref m_tape, .int j_taped, .int j_at, .int j_start, .int j_token, .int j_value, .int j_fault, .int j_place, .int j_latest, .ref m_low, .ref m_high, .ref m_first, .ref m_second, .ref m_lines, .ref m_others, .int j_shiftFirst, .int j_shiftMany, .int j_shiftLow, .int j_shiftHigh])), (m_now, .inl (kI, 192, .inl g_now)), (m_low, .inl (kI, 1000, .inl g_low)), (m_high, .inl (kI, 1000, .inl g_high)), (b, .inl (kZ, 200, .inl f51))] H ∧ va_D A [(h0, .inr (10, [.ref m_now, .ref m_draft, .ref m_past, .int j_acts, .ref m_images, .ref m_kept, .ref m_tape, .int j_taped, .int j_at, .int j_start, .int j_token, .int j_value, .int j_fault, .int j_place, .int j_latest, .ref m_low, .ref m_high, .ref m_first, .ref m_second, .ref m_lines, .ref m_others, .int j_shiftFirst, .int j_shiftMany, .int j_shiftLow, .int j_shiftHigh])), (m_now, .inl (kI, 192, .inl g_now)), (m_low, .inl (kI, 1000, .inl g_low)), (m_high, .inl (kI, 1000, .inl g_high)), (b, .inl (kZ, 200, .inl f51))] ∧ va_S A s.heap H locs ∧ lv_has ls 7 [(0, .ref h0), (1, .int i_e), (2, .int i_fr), (3, .int i_to), (4, .ref b), (5, .int v50), (6, .int x56)]) 0 0 (fun (v65 : Int32) ls => F0 m 84 ls [.int v65, .int v50, .ref b]) (fun v65 H locs ls hI => ?_) (fun hJ66 => ?_)
    ·
      obtain ⟨hP, hD, hS, hl⟩ := hI
      have hP : va_P D vwCl [(h0, .inr (10, [.ref m_now, .ref m_draft, .ref m_past, .int j_acts, .ref m_images, .ref m_kept, .ref m_tape, .int j_taped, .int j_at, .int j_start, .int j_token, .int j_value, .int j_fault, .int j_place, .int j_latest, .ref m_low, .ref m_high, .ref m_first, .ref m_second, .ref m_lines, .ref m_others, .int j_shiftFirst, .int j_shiftMany, .int j_shiftLow, .int j_shiftHigh])), (m_now, .inl (kI, 192, .inl g_now)), (m_low, .inl (kI, 1000, .inl g_low)), (m_high, .inl (kI, 1000, .inl g_high)), (b, .inl (kZ, 200, .inl f51))] H := hP
      have hD : va_D A [(h0, .inr (10, [.ref m_now, .ref m_draft, .ref m_past, .int j_acts, .ref m_images, .ref m_kept, .ref m_tape, .int j_taped, .int j_at, .int j_start, .int j_token, .int j_value, .int j_fault, .int j_place, .int j_latest, .ref m_low, .ref m_high, .ref m_first, .ref m_second, .ref m_lines, .ref m_others, .int j_shiftFirst, .int j_shiftMany, .int j_shiftLow, .int j_shiftHigh])), (m_now, .inl (kI, 192, .inl g_now)), (m_low, .inl (kI, 1000, .inl g_low)), (m_high, .inl (kI, 1000, .inl g_high)), (b, .inl (kZ, 200, .inl f51))] := hD
      have hK : va_K D vwCl [(kI, .int), (kZ, .boolean), (kZ, .boolean)] s := hK
      have hl : lv_has ls 7 [(0, .ref h0), (1, .int i_e), (2, .int i_fr), (3, .int i_to), (4, .ref b), (5, .int v50), (6, .int x56)] := hl
      refine W.eq (g2 := F0 m 84 ls [.int v65, .int v50, .ref b]) rfl ?_
      refine va_zast hx hb hK hP hD hS 4 1 rfl rfl (vp_in_iff.mpr ⟨by omega, by omega⟩) dX10_laysSpan_84 (fun H locs hP hD hS => ?_)
      obtain ⟨g67, eg67⟩ : ∃ g : Nat → Int32, g = upd f51 (v50 : Int32).toNatClampNeg (vp_nar .boolean v65) := ⟨_, rfl⟩
      have hP : va_P D vwCl [(h0, .inr (10, [.ref m_now, .ref m_draft, .ref m_past, .int j_acts, .ref m_images, .ref m_kept, .ref m_tape, .int j_taped, .int j_at, .int j_start, .int j_token, .int j_value, .int j_fault, .int j_place, .int j_latest, .ref m_low, .ref m_high, .ref m_first, .ref m_second, .ref m_lines, .ref m_others, .int j_shiftFirst, .int j_shiftMany, .int j_shiftLow, .int j_shiftHigh])), (m_now, .inl (kI, 192, .inl g_now)), (m_low, .inl (kI, 1000, .inl g_low)), (m_high, .inl (kI, 1000, .inl g_high)), (b, .inl (kZ, 200, .inl (upd f51 (v50 : Int32).toNatClampNeg (vp_nar .boolean v65))))] H := hP
      have hD : va_D A [(h0, .inr (10, [.ref m_now, .ref m_draft, .ref m_past, .int j_acts, .ref m_images, .ref m_kept, .ref m_tape, .int j_taped, .int j_at, .int j_start, .int j_token, .int j_value, .int j_fault, .int j_place, .int j_latest, .ref m_low, .ref m_high, .ref m_first, .ref m_second, .ref m_lines, .ref m_others, .int j_shiftFirst, .int j_shiftMany, .int j_shiftLow, .int j_shiftHigh])), (m_now, .inl (kI, 192, .inl g_now)), (m_low, .inl (kI, 1000, .inl g_low)), (m_high, .inl (kI, 1000, .inl g_high)), (b, .inl (kZ, 200, .inl (upd f51 (v50 : Int32).toNatClampNeg (vp_nar .boolean v65))))] := hD
      have hK : va_K D vwCl [(kI, .int), (kZ, .boolean), (kZ, .boolean)] s := hK
      rw [← eg67] at hP hD
      obtain ⟨x68, ex68⟩ : ∃ y : Int32, y = v50 + 1 := ⟨_, rfl⟩
      have tx68 : x68.toInt = v50.toInt + 1 := pw_addX ex68 rfl (by decide) (by omega) (by omega)
      refine lv_iinc (v := x68) (lv' := [(5, .int x68), (0, .ref h0), (1, .int i_e), (2, .int i_fr), (3, .int i_to), (4, .ref b), (6, .int x56)]) hx hb dX10_laysSpan_85 hl (k := 5) rfl (by rw [ex68]; rfl) (by decide) rfl (fun ls hl => ?_)
      refine lv_goto (tgt := 8) hx hb dX10_laysSpan_88 (by decide) ?_
      have hP9 : va_P D vwCl [(h0, .inr (10, [.ref m_now, .ref m_draft, .ref m_past, .int j_acts, .ref m_images, .ref m_kept, .ref m_tape, .int j_taped, .int j_at, .int j_start, .int j_token, .int j_value, .int j_fault, .int j_place, .int j_latest, .ref m_low, .ref m_high, .ref m_first, .ref m_second, .ref m_lines, .ref m_others, .int j_shiftFirst, .int j_shiftMany, .int j_shiftLow, .int j_shiftHigh])), (m_now, .inl (kI, 192, .inl g_now)), (m_low, .inl (kI, 1000, .inl g_low)), (m_high, .inl (kI, 1000, .inl g_high)), (b, .inl (kZ, 200, .inl g67))] H := hP.sub [0, 1, 2, 3, 4] rfl
      have hD9 : va_D A [(h0, .inr (10, [.ref m_now, .ref m_draft, .ref m_past, .int j_acts, .ref m_images, .ref m_kept, .ref m_tape, .int j_taped, .int j_at, .int j_start, .int j_token, .int j_value, .int j_fault, .int j_place, .int j_latest, .ref m_low, .ref m_high, .ref m_first, .ref m_second, .ref m_lines, .ref m_others, .int j_shiftFirst, .int j_shiftMany, .int j_shiftLow, .int j_shiftHigh])), (m_now, .inl (kI, 192, .inl g_now)), (m_low, .inl (kI, 1000, .inl g_low)), (m_high, .inl (kI, 1000, .inl g_high)), (b, .inl (kZ, 200, .inl g67))] := hD.sub [0, 1, 2, 3, 4] (by decide) rfl
      have hl9 : lv_has ls 7 [(0, .ref h0), (1, .int i_e), (2, .int i_fr), (3, .int i_to), (4, .ref b), (5, .int x68)] := lv_sub hl [1, 2, 3, 4, 5, 0] rfl
      refine W.widen (k := 0) (n := 0) (Nat.le_of_ble_eq_true rfl) (Nat.le_of_ble_eq_true rfl) ?_
      exact ih52 (x68, g67) _ _ _ (pw_up ex68 (by omega)) ⟨hP9, hD9, hS, hl9, (pw_upge ex68 (by omega) (by omega))⟩
    ·
      refine lv_if_eq (tgt := 83) hx hb dX10_laysSpan_40 (by decide) (fun c69 => ?_) (fun c69 => ?_)
      · have nc69 : r57.toInt = 0 := pw_eq c69 rfl (by decide)
        refine lv_iconst (v := 0) hx hb dX10_laysSpan_83 (by decide) ?_
        have hP9 : va_P D vwCl [(h0, .inr (10, [.ref m_now, .ref m_draft, .ref m_past, .int j_acts, .ref m_images, .ref m_kept, .ref m_tape, .int j_taped, .int j_at, .int j_start, .int j_token, .int j_value, .int j_fault, .int j_place, .int j_latest, .ref m_low, .ref m_high, .ref m_first, .ref m_second, .ref m_lines, .ref m_others, .int j_shiftFirst, .int j_shiftMany, .int j_shiftLow, .int j_shiftHigh])), (m_now, .inl (kI, 192, .inl g_now)), (m_low, .inl (kI, 1000, .inl g_low)), (m_high, .inl (kI, 1000, .inl g_high)), (b, .inl (kZ, 200, .inl f51))] H := hP.sub [0, 1, 2, 3, 4] rfl
        have hD9 : va_D A [(h0, .inr (10, [.ref m_now, .ref m_draft, .ref m_past, .int j_acts, .ref m_images, .ref m_kept, .ref m_tape, .int j_taped, .int j_at, .int j_start, .int j_token, .int j_value, .int j_fault, .int j_place, .int j_latest, .ref m_low, .ref m_high, .ref m_first, .ref m_second, .ref m_lines, .ref m_others, .int j_shiftFirst, .int j_shiftMany, .int j_shiftLow, .int j_shiftHigh])), (m_now, .inl (kI, 192, .inl g_now)), (m_low, .inl (kI, 1000, .inl g_low)), (m_high, .inl (kI, 1000, .inl g_high)), (b, .inl (kZ, 200, .inl f51))] := hD.sub [0, 1, 2, 3, 4] (by decide) rfl
        have hl9 : lv_has ls 7 [(0, .ref h0), (1, .int i_e), (2, .int i_fr), (3, .int i_to), (4, .ref b), (5, .int v50), (6, .int x56)] := lv_sub hl [1, 2, 3, 4, 5, 6, 0] rfl
        refine W.widen (k := 0) (n := 0) (Nat.le_of_ble_eq_true rfl) (Nat.le_of_ble_eq_true rfl) ?_
        exact hJ66 0 _ _ _ ⟨hP9, hD9, hS, hl9⟩
      · have nc69 : r57.toInt ≠ 0 := pw_ne c69 rfl (by decide)
        refine lv_aload_n hx hb dX10_laysSpan_43 rfl (lv_at hl 1 rfl) ?_
        refine va_get (D := D) (ci := 10) (v := .ref m_low) (C := RX10) (T := TX10) (N := 25) hx hb hts (fun _ h => List.mem_cons_of_mem _ (List.mem_append_right _ h)) hown hK hP 0 rfl rfl 15 (by decide) (hts (.fieldLink RX10 29 "LineCitesModel" "low" "[I") (List.mem_of_getElem? (i := 10) rfl)) (fun _ h9 => h9) rfl dX10_laysSpan_44 ?_
        refine lv_iload hx hb dX10_laysSpan_47 (lv_at hl 0 rfl) ?_
        refine va_iald hx hb hK hP 2 0 rfl rfl (vp_in_iff.mpr ⟨by omega, by omega⟩) dX10_laysSpan_49 ?_
        refine lv_topi (fun x70 ex70 => ?_)
        have nx70 : 0 ≤ x70.toInt ∧ x70.toInt ≤ 999 := bP_at hg_low ex70
        refine lv_i2l (v := x70.toInt64) hx hb dX10_laysSpan_50 rfl ?_
        refine lv_iload_n hx hb dX10_laysSpan_51 rfl (lv_at hl 3 rfl) ?_
        refine lv_i2l (v := i_fr.toInt64) hx hb dX10_laysSpan_52 rfl ?_
        refine lv_iload_n hx hb dX10_laysSpan_53 rfl (lv_at hl 4 rfl) ?_
        refine lv_i2l (v := i_to.toInt64) hx hb dX10_laysSpan_54 rfl ?_
        have hPc := hP.sub (ws' := []) [] rfl
        have hKc := hK.sub (tys' := []) [] rfl
        refine va_calli (va_runS (As := [.long x70.toInt64, .long i_fr.toInt64, .long i_to.toInt64]) (rest := [.int v50, .ref b]) ⟨hx, hb, hml, hown, hts⟩ (c_X10_in0 l D x70.toInt64 i_fr.toInt64 i_to.toInt64) (cwS 3 hts g_X10_laysSpan_X10_in0 rfl rfl rfl (by decide +kernel) ⟨Nat.le_of_ble_eq_true rfl, Nat.le_of_ble_eq_true rfl⟩) ⟨fun a U g mk q => by obtain ⟨q0, qP, qK⟩ := q; exact ⟨q0, qP, va_K.moved (u := U) (U := U.calling g mk a) (Vm.Alike.refl U.vm) qK⟩, fun U hU hW => ⟨rfl, by rw [hU]; exact hPc, va_K.moved hW.alike hKc⟩⟩ rfl rfl hl.1 rfl (lv_room (Nat.le_of_ble_eq_true rfl)) dX10_laysSpan_55 ⟨Nat.le_of_ble_eq_true rfl, Nat.le_of_ble_eq_true rfl⟩) hS (fun _ _ h => h.elim) (fun _ h => h.elim) (fun r71 u t H1 locs ht hvm hw hB hz1 hk1 hS => ?_)
        have hP := pw_keep hP (fun q hq => hk1 q hq (fun h => h))
        generalize H1 = H at hP hS ⊢
        refine W.widen (k := 0) (n := 0) (Nat.le_of_ble_eq_true rfl) (Nat.le_of_ble_eq_true rfl) ?_
        have bor71 := hw.1
        have zor71 := pw_boolI bor71
        have hfr71 := hw.2
        try simp only [Int32.toInt_toInt64] at hfr71
        refine lv_if_ne (tgt := 79) hx hb dX10_laysSpan_58 (by decide) (fun c72 => ?_) (fun c72 => ?_)
        · have nc72 : r71.toInt ≠ 0 := pw_ne c72 rfl (by decide)
          refine lv_iconst (v := 1) hx hb dX10_laysSpan_79 (by decide) ?_
          refine lv_goto (tgt := 84) hx hb dX10_laysSpan_80 (by decide) ?_
          have hP9 : va_P D vwCl [(h0, .inr (10, [.ref m_now, .ref m_draft, .ref m_past, .int j_acts, .ref m_images, .ref m_kept, .ref m_tape, .int j_taped, .int j_at, .int j_start, .int j_token, .int j_value, .int j_fault, .int j_place, .int j_latest, .ref m_low, .ref m_high, .ref m_first, .ref m_second, .ref m_lines, .ref m_others, .int j_shiftFirst, .int j_shiftMany, .int j_shiftLow, .int j_shiftHigh])), (m_now, .inl (kI, 192, .inl g_now)), (m_low, .inl (kI, 1000, .inl g_low)), (m_high, .inl (kI, 1000, .inl g_high)), (b, .inl (kZ, 200, .inl f51))] H := hP.sub [0, 1, 2, 3, 4] rfl
          have hD9 : va_D A [(h0, .inr (10, [.ref m_now, .ref m_draft, .ref m_past, .int j_acts, .ref m_images, .ref m_kept, .ref m_tape, .int j_taped, .int j_at, .int j_start, .int j_token, .int j_value, .int j_fault, .int j_place, .int j_latest, .ref m_low, .ref m_high, .ref m_first, .ref m_second, .ref m_lines, .ref m_others, .int j_shiftFirst, .int j_shiftMany, .int j_shiftLow, .int j_shiftHigh])), (m_now, .inl (kI, 192, .inl g_now)), (m_low, .inl (kI, 1000, .inl g_low)), (m_high, .inl (kI, 1000, .inl g_high)), (b, .inl (kZ, 200, .inl f51))] := hD.sub [0, 1, 2, 3, 4] (by decide) rfl
          have hl9 : lv_has ls 7 [(0, .ref h0), (1, .int i_e), (2, .int i_fr), (3, .int i_to), (4, .ref b), (5, .int v50), (6, .int x56)] := lv_sub hl [1, 2, 3, 4, 5, 6, 0] rfl
          refine W.widen (k := 0) (n := 0) (Nat.le_of_ble_eq_true rfl) (Nat.le_of_ble_eq_true rfl) ?_
          exact hJ66 1 _ _ _ ⟨hP9, hD9, hS, hl9⟩
        · have nc72 : r71.toInt = 0 := pw_eq c72 rfl (by decide)
          refine lv_aload_n hx hb dX10_laysSpan_61 rfl (lv_at hl 1 rfl) ?_
          refine va_get (D := D) (ci := 10) (v := .ref m_high) (C := RX10) (T := TX10) (N := 25) hx hb hts (fun _ h => List.mem_cons_of_mem _ (List.mem_append_right _ h)) hown hK hP 0 rfl rfl 16 (by decide) (hts (.fieldLink RX10 32 "LineCitesModel" "high" "[I") (List.mem_of_getElem? (i := 14) rfl)) (fun _ h9 => h9) rfl dX10_laysSpan_62 ?_
          refine lv_iload hx hb dX10_laysSpan_65 (lv_at hl 0 rfl) ?_
          refine va_iald hx hb hK hP 3 0 rfl rfl (vp_in_iff.mpr ⟨by omega, by omega⟩) dX10_laysSpan_67 ?_
          refine lv_topi (fun x73 ex73 => ?_)
          have nx73 : 0 ≤ x73.toInt ∧ x73.toInt ≤ 999 := bP_at hg_high ex73
          refine lv_i2l (v := x73.toInt64) hx hb dX10_laysSpan_68 rfl ?_
          refine lv_iload_n hx hb dX10_laysSpan_69 rfl (lv_at hl 3 rfl) ?_
          refine lv_i2l (v := i_fr.toInt64) hx hb dX10_laysSpan_70 rfl ?_
          refine lv_iload_n hx hb dX10_laysSpan_71 rfl (lv_at hl 4 rfl) ?_
          refine lv_i2l (v := i_to.toInt64) hx hb dX10_laysSpan_72 rfl ?_
          have hPc := hP.sub (ws' := []) [] rfl
          have hKc := hK.sub (tys' := []) [] rfl
          refine va_calli (va_runS (As := [.long x73.toInt64, .long i_fr.toInt64, .long i_to.toInt64]) (rest := [.int v50, .ref b]) ⟨hx, hb, hml, hown, hts⟩ (c_X10_in0 l D x73.toInt64 i_fr.toInt64 i_to.toInt64) (cwS 3 hts g_X10_laysSpan_X10_in0 rfl rfl rfl (by decide +kernel) ⟨Nat.le_of_ble_eq_true rfl, Nat.le_of_ble_eq_true rfl⟩) ⟨fun a U g mk q => by obtain ⟨q0, qP, qK⟩ := q; exact ⟨q0, qP, va_K.moved (u := U) (U := U.calling g mk a) (Vm.Alike.refl U.vm) qK⟩, fun U hU hW => ⟨rfl, by rw [hU]; exact hPc, va_K.moved hW.alike hKc⟩⟩ rfl rfl hl.1 rfl (lv_room (Nat.le_of_ble_eq_true rfl)) dX10_laysSpan_73 ⟨Nat.le_of_ble_eq_true rfl, Nat.le_of_ble_eq_true rfl⟩) hS (fun _ _ h => h.elim) (fun _ h => h.elim) (fun r74 u t H1 locs ht hvm hw hB hz1 hk1 hS => ?_)
          have hP := pw_keep hP (fun q hq => hk1 q hq (fun h => h))
          generalize H1 = H at hP hS ⊢
          refine W.widen (k := 0) (n := 0) (Nat.le_of_ble_eq_true rfl) (Nat.le_of_ble_eq_true rfl) ?_
          have bor74 := hw.1
          have zor74 := pw_boolI bor74
          have hfr74 := hw.2
          try simp only [Int32.toInt_toInt64] at hfr74
          refine lv_if_eq (tgt := 83) hx hb dX10_laysSpan_76 (by decide) (fun c75 => ?_) (fun c75 => ?_)
          · have nc75 : r74.toInt = 0 := pw_eq c75 rfl (by decide)
            refine lv_iconst (v := 0) hx hb dX10_laysSpan_83 (by decide) ?_
            have hP9 : va_P D vwCl [(h0, .inr (10, [.ref m_now, .ref m_draft, .ref m_past, .int j_acts, .ref m_images, .ref m_kept, .ref m_tape, .int j_taped, .int j_at, .int j_start, .int j_token, .int j_value, .int j_fault, .int j_place, .int j_latest, .ref m_low, .ref m_high, .ref m_first, .ref m_second, .ref m_lines, .ref m_others, .int j_shiftFirst, .int j_shiftMany, .int j_shiftLow, .int j_shiftHigh])), (m_now, .inl (kI, 192, .inl g_now)), (m_low, .inl (kI, 1000, .inl g_low)), (m_high, .inl (kI, 1000, .inl g_high)), (b, .inl (kZ, 200, .inl f51))] H := hP.sub [0, 1, 2, 3, 4] rfl
            have hD9 : va_D A [(h0, .inr (10, [.ref m_now, .ref m_draft, .ref m_past, .int j_acts, .ref m_images, .ref m_kept, .ref m_tape, .int j_taped, .int j_at, .int j_start, .int j_token, .int j_value, .int j_fault, .int j_place, .int j_latest, .ref m_low, .ref m_high, .ref m_first, .ref m_second, .ref m_lines, .ref m_others, .int j_shiftFirst, .int j_shiftMany, .int j_shiftLow, .int j_shiftHigh])), (m_now, .inl (kI, 192, .inl g_now)), (m_low, .inl (kI, 1000, .inl g_low)), (m_high, .inl (kI, 1000, .inl g_high)), (b, .inl (kZ, 200, .inl f51))] := hD.sub [0, 1, 2, 3, 4] (by decide) rfl
            have hl9 : lv_has ls 7 [(0, .ref h0), (1, .int i_e), (2, .int i_fr), (3, .int i_to), (4, .ref b), (5, .int v50), (6, .int x56)] := lv_sub hl [1, 2, 3, 4, 5, 6, 0] rfl
            refine W.widen (k := 0) (n := 0) (Nat.le_of_ble_eq_true rfl) (Nat.le_of_ble_eq_true rfl) ?_
            exact hJ66 0 _ _ _ ⟨hP9, hD9, hS, hl9⟩
          · have nc75 : r74.toInt ≠ 0 := pw_ne c75 rfl (by decide)
            refine lv_iconst (v := 1) hx hb dX10_laysSpan_79 (by decide) ?_
            refine lv_goto (tgt := 84) hx hb dX10_laysSpan_80 (by decide) ?_
            have hP9 : va_P D vwCl [(h0, .inr (10, [.ref m_now, .ref m_draft, .ref m_past, .int j_acts, .ref m_images, .ref m_kept, .ref m_tape, .int j_taped, .int j_at, .int j_start, .int j_token, .int j_value, .int j_fault, .int j_place, .int j_latest, .ref m_low, .ref m_high, .ref m_first, .ref m_second, .ref m_lines, .ref m_others, .int j_shiftFirst, .int j_shiftMany, .int j_shiftLow, .int j_shiftHigh])), (m_now, .inl (kI, 192, .inl g_now)), (m_low, .inl (kI, 1000, .inl g_low)), (m_high, .inl (kI, 1000, .inl g_high)), (b, .inl (kZ, 200, .inl f51))] H := hP.sub [0, 1, 2, 3, 4] rfl
            have hD9 : va_D A [(h0, .inr (10, [.ref m_now, .ref m_draft, .ref m_past, .int j_acts, .ref m_images, .ref m_kept, .ref m_tape, .int j_taped, .int j_at, .int j_start, .int j_token, .int j_value, .int j_fault, .int j_place, .int j_latest, .ref m_low, .ref m_high, .ref m_first, .ref m_second, .ref m_lines, .ref m_others, .int j_shiftFirst, .int j_shiftMany, .int j_shiftLow, .int j_shiftHigh])), (m_now, .inl (kI, 192, .inl g_now)), (m_low, .inl (kI, 1000, .inl g_low)), (m_high, .inl (kI, 1000, .inl g_high)), (b, .inl (kZ, 200, .inl f51))] := hD.sub [0, 1, 2, 3, 4] (by decide) rfl
            have hl9 : lv_has ls 7 [(0, .ref h0), (1, .int i_e), (2, .int i_fr), (3, .int i_to), (4, .ref b), (5, .int v50), (6, .int x56)] := lv_sub hl [1, 2, 3, 4, 5, 6, 0] rfl
            refine W.widen (k := 0) (n := 0) (Nat.le_of_ble_eq_true rfl) (Nat.le_of_ble_eq_true rfl) ?_
            exact hJ66 1 _ _ _ ⟨hP9, hD9, hS, hl9⟩
def w_X10_laysLines : List Cond := .code yX10_laysLines cX10_laysLines 4 none :: ([.methodLink RX10 215 yX10_cited, .instanceMethod yX10_cited, .selects RX10 yX10_cited yX10_cited, .initialized RX10, .code yX10_cited cX10_cited 3 (some .int), .fieldLink RX10 7 "LineCitesModel" "now" "[I", .methodLink RX10 286 yX10_lastOf, .instanceMethod yX10_lastOf, .selects RX10 yX10_lastOf yX10_lastOf, .code yX10_lastOf cX10_lastOf 2 (some .int), .methodLink RX10 289 yX10_laysSpan, .instanceMethod yX10_laysSpan, .selects RX10 yX10_laysSpan yX10_laysSpan, .code yX10_laysSpan cX10_laysSpan 7 none, .methodLink RX10 87 yX10_clears, .static yX10_clears, .code yX10_clears cX10_clears 2 none, .methodLink RX10 73 yX10_hasNumber, .instanceMethod yX10_hasNumber, .selects RX10 yX10_hasNumber yX10_hasNumber, .code yX10_hasNumber cX10_hasNumber 3 (some .boolean), .fieldLink RX10 29 "LineCitesModel" "low" "[I", .methodLink RX10 51 yX10_in0, .static yX10_in0, .code yX10_in0 cX10_in0 6 (some .boolean), .fieldLink RX10 32 "LineCitesModel" "high" "[I"] ++ wsX100)
set_option maxRecDepth 20000 in
theorem g_X10_laysLines_X10_cited : GoodIn w_X10_laysLines (wsV RX10 215 RX10 yX10_cited w_X10_cited) := goodIn_r _ [1, 2, 3, 4, 5, 6, 27, 28, 29, 30, 31, 32, 33, 34, 35, 36, 37, 38, 39, 40, 41, 42, 43, 44, 45, 46, 47, 48, 49, 50, 51] rfl (by decide +kernel)
set_option maxRecDepth 20000 in
theorem g_X10_laysLines_X10_lastOf : GoodIn w_X10_laysLines (wsV RX10 286 RX10 yX10_lastOf w_X10_lastOf) := goodIn_r _ [7, 8, 9, 4, 10, 1, 2, 3, 4, 5, 6, 27, 28, 29, 30, 31, 32, 33, 34, 35, 36, 37, 38, 39, 40, 41, 42, 43, 44, 45, 46, 47, 48, 49, 50, 51] rfl (by decide +kernel)
set_option maxRecDepth 20000 in
theorem g_X10_laysLines_X10_laysSpan : GoodIn w_X10_laysLines (wsV RX10 289 RX10 yX10_laysSpan w_X10_laysSpan) := goodIn_r _ [11, 12, 13, 4, 14, 15, 16, 4, 17, 6, 18, 19, 20, 21, 22, 23, 24, 25, 26, 27, 28, 29, 30, 31, 32, 33, 34, 35, 36, 37, 38, 39, 40, 41, 42, 43, 44, 45, 46, 47, 48, 49, 50, 51] rfl (by decide +kernel)
set_option maxHeartbeats 4000000 in
set_option maxRecDepth 100000 in
theorem c_X10_laysLines (l : Launch) (D : va_G) (h0 : Nat) (i_c : Int32) (i_e : Int32) (b : Nat) (m_now : Nat) (m_draft : Nat) (m_past : Nat) (j_acts : Int32) (m_images : Nat) (m_kept : Nat) (m_tape : Nat) (j_taped : Int32) (j_at : Int32) (j_start : Int32) (j_token : Int32) (j_value : Int32) (j_fault : Int32) (j_place : Int32) (j_latest : Int32) (m_low : Nat) (m_high : Nat) (m_first : Nat) (m_second : Nat) (m_lines : Nat) (m_others : Nat) (j_shiftFirst : Int32) (j_shiftMany : Int32) (j_shiftLow : Int32) (j_shiftHigh : Int32) (kI : ClassId) (g_now : Nat → Int32) (g_low : Nat → Int32) (g_high : Nat → Int32) (kZ : ClassId) (g_b : Nat → Int32) (sz : Nat) (h0i_e : 0 ≤ i_e.toInt) (h1i_e : i_e.toInt ≤ 4) (h0i_c : 0 ≤ i_c.toInt) (h1i_c : i_c.toInt ≤ 7) (hg_now : gV g_now) (hg_low : bP g_low) (hg_high : bP g_high) : Met l yX10_laysLines w_X10_laysLines ({ frames := 2, cells := 0, slots := 0, locals := 51 }) (va_Pc [.ref h0, .int i_c, .int i_e, .ref b] (fun U => U.heap.size = sz ∧ va_P D vwCl [(h0, .inr (10, [.ref m_now, .ref m_draft, .ref m_past, .int j_acts, .ref m_images, .ref m_kept, .ref m_tape, .int j_taped, .int j_at, .int j_start, .int j_token, .int j_value, .int j_fault, .int j_place, .int j_latest, .ref m_low, .ref m_high, .ref m_first, .ref m_second, .ref m_lines, .ref m_others, .int j_shiftFirst, .int j_shiftMany, .int j_shiftLow, .int j_shiftHigh])), (m_now, .inl (kI, 192, .inl g_now)), (m_low, .inl (kI, 1000, .inl g_low)), (m_high, .inl (kI, 1000, .inl g_high)), (b, .inl (kZ, 200, .inl g_b))] U.heap ∧ va_K D vwCl [(kI, .int), (kZ, .boolean)] U ∧ va_D (fun _ => True) [(h0, .inr (10, [.ref m_now, .ref m_draft, .ref m_past, .int j_acts, .ref m_images, .ref m_kept, .ref m_tape, .int j_taped, .int j_at, .int j_start, .int j_token, .int j_value, .int j_fault, .int j_place, .int j_latest, .ref m_low, .ref m_high, .ref m_first, .ref m_second, .ref m_lines, .ref m_others, .int j_shiftFirst, .int j_shiftMany, .int j_shiftLow, .int j_shiftHigh])), (m_now, .inl (kI, 192, .inl g_now)), (m_low, .inl (kI, 1000, .inl g_low)), (m_high, .inl (kI, 1000, .inl g_high)), (b, .inl (kZ, 200, .inl g_b))])) (va_Qv (fun (_ : Unit) => True) (fun (_ : Unit) t => ∃ (n_b : Nat → Int32), va_P D vwCl [(h0, .inr (10, [.ref m_now, .ref m_draft, .ref m_past, .int j_acts, .ref m_images, .ref m_kept, .ref m_tape, .int j_taped, .int j_at, .int j_start, .int j_token, .int j_value, .int j_fault, .int j_place, .int j_latest, .ref m_low, .ref m_high, .ref m_first, .ref m_second, .ref m_lines, .ref m_others, .int j_shiftFirst, .int j_shiftMany, .int j_shiftLow, .int j_shiftHigh])), (m_now, .inl (kI, 192, .inl g_now)), (m_low, .inl (kI, 1000, .inl g_low)), (m_high, .inl (kI, 1000, .inl g_high)), (b, .inl (kZ, 200, .inl n_b))] t.heap ∧ va_K D vwCl [(kI, .int), (kZ, .boolean)] t ∧ va_D (va_A [(h0, .inr (10, [.ref m_now, .ref m_draft, .ref m_past, .int j_acts, .ref m_images, .ref m_kept, .ref m_tape, .int j_taped, .int j_at, .int j_start, .int j_token, .int j_value, .int j_fault, .int j_place, .int j_latest, .ref m_low, .ref m_high, .ref m_first, .ref m_second, .ref m_lines, .ref m_others, .int j_shiftFirst, .int j_shiftMany, .int j_shiftLow, .int j_shiftHigh])), (m_now, .inl (kI, 192, .inl g_now)), (m_low, .inl (kI, 1000, .inl g_low)), (m_high, .inl (kI, 1000, .inl g_high)), (b, .inl (kZ, 200, .inl g_b))] sz) [(h0, .inr (10, [.ref m_now, .ref m_draft, .ref m_past, .int j_acts, .ref m_images, .ref m_kept, .ref m_tape, .int j_taped, .int j_at, .int j_start, .int j_token, .int j_value, .int j_fault, .int j_place, .int j_latest, .ref m_low, .ref m_high, .ref m_first, .ref m_second, .ref m_lines, .ref m_others, .int j_shiftFirst, .int j_shiftMany, .int j_shiftLow, .int j_shiftHigh])), (m_now, .inl (kI, 192, .inl g_now)), (m_low, .inl (kI, 1000, .inl g_low)), (m_high, .inl (kI, 1000, .inl g_high)), (b, .inl (kZ, 200, .inl n_b))]) (va_A [(h0, .inr (10, [.ref m_now, .ref m_draft, .ref m_past, .int j_acts, .ref m_images, .ref m_kept, .ref m_tape, .int j_taped, .int j_at, .int j_start, .int j_token, .int j_value, .int j_fault, .int j_place, .int j_latest, .ref m_low, .ref m_high, .ref m_first, .ref m_second, .ref m_lines, .ref m_others, .int j_shiftFirst, .int j_shiftMany, .int j_shiftLow, .int j_shiftHigh])), (m_now, .inl (kI, 192, .inl g_now)), (m_low, .inl (kI, 1000, .inl g_low)), (m_high, .inl (kI, 1000, .inl g_high)), (b, .inl (kZ, 200, .inl g_b))] sz)) 0 0 (va_A [(h0, .inr (10, [.ref m_now, .ref m_draft, .ref m_past, .int j_acts, .ref m_images, .ref m_kept, .ref m_tape, .int j_taped, .int j_at, .int j_start, .int j_token, .int j_value, .int j_fault, .int j_place, .int j_latest, .ref m_low, .ref m_high, .ref m_first, .ref m_second, .ref m_lines, .ref m_others, .int j_shiftFirst, .int j_shiftMany, .int j_shiftLow, .int j_shiftHigh])), (m_now, .inl (kI, 192, .inl g_now)), (m_low, .inl (kI, 1000, .inl g_low)), (m_high, .inl (kI, 1000, .inl g_high)), (b, .inl (kZ, 200, .inl g_b))] sz) := by
  refine Met.ofW (cc := cX10_laysLines) (maxL := 4) (ret := none) (by decide) rfl ?_
  intro p e s m args below meth c s₁ B hml hv
  obtain ⟨rfl, hsz, hP, hK, hD0⟩ := hv
  have hx := B.exec
  have hb := B.bytes
  have hr := B.returns
  have hts := atoms_spec (ws := w_X10_laysLines) B.pre
  have hown : s.vm.findClass RX10 = some m.cls := findClass_of_methodNamed B.named
  have hlocks := B.notSynchronized
  subst hsz
  have hD := hD0.self (sz := s.heap.size)
  generalize hAe : va_A [(h0, .inr (10, [.ref m_now, .ref m_draft, .ref m_past, .int j_acts, .ref m_images, .ref m_kept, .ref m_tape, .int j_taped, .int j_at, .int j_start, .int j_token, .int j_value, .int j_fault, .int j_place, .int j_latest, .ref m_low, .ref m_high, .ref m_first, .ref m_second, .ref m_lines, .ref m_others, .int j_shiftFirst, .int j_shiftMany, .int j_shiftLow, .int j_shiftHigh])), (m_now, .inl (kI, 192, .inl g_now)), (m_low, .inl (kI, 1000, .inl g_low)), (m_high, .inl (kI, 1000, .inl g_high)), (b, .inl (kZ, 200, .inl g_b))] s.heap.size = A at hD ⊢
  have hA : ∀ q : Nat, s.heap.size ≤ q → A q := fun q h => by rw [← hAe]; exact Or.inr h
  have hS : va_S A s.heap s.heap [] := va_S.rf
  have hP : va_P D vwCl [(h0, .inr (10, [.ref m_now, .ref m_draft, .ref m_past, .int j_acts, .ref m_images, .ref m_kept, .ref m_tape, .int j_taped, .int j_at, .int j_start, .int j_token, .int j_value, .int j_fault, .int j_place, .int j_latest, .ref m_low, .ref m_high, .ref m_first, .ref m_second, .ref m_lines, .ref m_others, .int j_shiftFirst, .int j_shiftMany, .int j_shiftLow, .int j_shiftHigh])), (m_now, .inl (kI, 192, .inl g_now)), (m_low, .inl (kI, 1000, .inl g_low)), (m_high, .inl (kI, 1000, .inl g_high)), (b, .inl (kZ, 200, .inl g_b))] s.heap := hP
  have hl := lv_entry ([.ref h0, .int i_c, .int i_e, .ref b]) (n := 4) (Nat.le_of_ble_eq_true rfl)
  rw [lg_entry_eq]
  generalize (lg_sl ([.ref h0, .int i_c, .int i_e, .ref b]) ++ List.replicate (4 - (lg_sl ([.ref h0, .int i_c, .int i_e, .ref b])).length) Slot.unset).toArray = ls at hl ⊢
  have hl : lv_has ls 4 [(0, .ref h0), (1, .int i_c), (2, .int i_e), (3, .ref b)] := hl
  obtain ⟨H, hHe⟩ : ∃ H : Heap, H = s.heap := ⟨_, rfl⟩
  rw [← hHe] at hP
  have hS : va_S A s.heap H [] := by rw [hHe]; exact hS
  refine pw_heap hHe ?_
  refine lv_aload_n hx hb dX10_laysLines_0 rfl (lv_at hl 0 rfl) ?_
  refine lv_iload_n hx hb dX10_laysLines_1 rfl (lv_at hl 2 rfl) ?_
  refine lv_aload_n hx hb dX10_laysLines_2 rfl (lv_at hl 0 rfl) ?_
  refine lv_iload_n hx hb dX10_laysLines_3 rfl (lv_at hl 1 rfl) ?_
  refine lv_iconst (v := 3) hx hb dX10_laysLines_4 (by decide) ?_
  have kk3 : (3 : Int32).toInt = 3 := by decide
  have hPc := hP.sub (ws' := [(h0, .inr (10, [.ref m_now, .ref m_draft, .ref m_past, .int j_acts, .ref m_images, .ref m_kept, .ref m_tape, .int j_taped, .int j_at, .int j_start, .int j_token, .int j_value, .int j_fault, .int j_place, .int j_latest, .ref m_low, .ref m_high, .ref m_first, .ref m_second, .ref m_lines, .ref m_others, .int j_shiftFirst, .int j_shiftMany, .int j_shiftLow, .int j_shiftHigh])), (m_now, .inl (kI, 192, .inl g_now))]) [0, 1] rfl
  have hKc := hK.sub (tys' := [(kI, .int)]) [0] rfl
  refine va_calli (va_runV (As := [.int i_c, .int 3]) (rest := [.int i_e, .ref h0]) ⟨hx, hb, hml, hown, hts⟩ (c_X10_cited l D h0 i_c 3 m_now m_draft m_past j_acts m_images m_kept m_tape j_taped j_at j_start j_token j_value j_fault j_place j_latest m_low m_high m_first m_second m_lines m_others j_shiftFirst j_shiftMany j_shiftLow j_shiftHigh kI g_now i_c.toInt.toNat 3 (by first | decide | omega) (by first | decide | omega) (by first | decide | omega) (by first | decide | omega) (by first | omega | decide | (have hz0 : (0 : Int32).toInt = 0 := (by decide); omega)) (by first | omega | decide | (have hz0 : (0 : Int32).toInt = 0 := (by decide); omega))) (cwV 2 hts g_X10_laysLines_X10_cited rfl rfl rfl (by decide +kernel) ⟨Nat.le_of_ble_eq_true rfl, Nat.le_of_ble_eq_true rfl⟩) ⟨fun a U g mk q => by obtain ⟨q0, qP, qK⟩ := q; exact ⟨q0, qP, va_K.moved (u := U) (U := U.calling g mk a) (Vm.Alike.refl U.vm) qK⟩, va_recv hKc hPc (ci := 10) (q0 := 0) rfl rfl, fun U hU hW => ⟨rfl, by rw [hU]; exact hPc, va_K.moved hW.alike hKc⟩⟩ rfl rfl hl.1 rfl (lv_room (Nat.le_of_ble_eq_true rfl)) dX10_laysLines_5 ⟨Nat.le_of_ble_eq_true rfl, Nat.le_of_ble_eq_true rfl⟩) hS (fun _ _ h => h.elim) (fun _ h => h.elim) (fun r1 u t H1 locs ht hvm hw hB hz1 hk1 hS => ?_)
  have hP := pw_keep hP (fun q hq => hk1 q hq (fun h => h))
  generalize H1 = H at hP hS ⊢
  refine W.widen (k := 0) (n := 0) (Nat.le_of_ble_eq_true rfl) (Nat.le_of_ble_eq_true rfl) ?_
  have hfr1 := hw
  refine lv_aload_n hx hb dX10_laysLines_8 rfl (lv_at hl 0 rfl) ?_
  refine lv_iload_n hx hb dX10_laysLines_9 rfl (lv_at hl 1 rfl) ?_
  have hPc := hP.sub (ws' := [(h0, .inr (10, [.ref m_now, .ref m_draft, .ref m_past, .int j_acts, .ref m_images, .ref m_kept, .ref m_tape, .int j_taped, .int j_at, .int j_start, .int j_token, .int j_value, .int j_fault, .int j_place, .int j_latest, .ref m_low, .ref m_high, .ref m_first, .ref m_second, .ref m_lines, .ref m_others, .int j_shiftFirst, .int j_shiftMany, .int j_shiftLow, .int j_shiftHigh])), (m_now, .inl (kI, 192, .inl g_now))]) [0, 1] rfl
  have hKc := hK.sub (tys' := [(kI, .int)]) [0] rfl
  refine va_calli (va_runV (As := [.int i_c]) (rest := [.int r1, .int i_e, .ref h0]) ⟨hx, hb, hml, hown, hts⟩ (c_X10_lastOf l D h0 i_c m_now m_draft m_past j_acts m_images m_kept m_tape j_taped j_at j_start j_token j_value j_fault j_place j_latest m_low m_high m_first m_second m_lines m_others j_shiftFirst j_shiftMany j_shiftLow j_shiftHigh kI g_now (by first | decide | omega) (by first | decide | omega)) (cwV 1 hts g_X10_laysLines_X10_lastOf rfl rfl rfl (by decide +kernel) ⟨Nat.le_of_ble_eq_true rfl, Nat.le_of_ble_eq_true rfl⟩) ⟨fun a U g mk q => by obtain ⟨q0, qP, qK⟩ := q; exact ⟨q0, qP, va_K.moved (u := U) (U := U.calling g mk a) (Vm.Alike.refl U.vm) qK⟩, va_recv hKc hPc (ci := 10) (q0 := 0) rfl rfl, fun U hU hW => ⟨rfl, by rw [hU]; exact hPc, va_K.moved hW.alike hKc⟩⟩ rfl rfl hl.1 rfl (lv_room (Nat.le_of_ble_eq_true rfl)) dX10_laysLines_10 ⟨Nat.le_of_ble_eq_true rfl, Nat.le_of_ble_eq_true rfl⟩) hS (fun _ _ h => h.elim) (fun _ h => h.elim) (fun r2 u t H1 locs ht hvm hw hB hz1 hk1 hS => ?_)
  have hP := pw_keep hP (fun q hq => hk1 q hq (fun h => h))
  generalize H1 = H at hP hS ⊢
  refine W.widen (k := 0) (n := 0) (Nat.le_of_ble_eq_true rfl) (Nat.le_of_ble_eq_true rfl) ?_
  refine lv_aload_n hx hb dX10_laysLines_13 rfl (lv_at hl 3 rfl) ?_
  have hPc := hP.sub (ws' := [(h0, .inr (10, [.ref m_now, .ref m_draft, .ref m_past, .int j_acts, .ref m_images, .ref m_kept, .ref m_tape, .int j_taped, .int j_at, .int j_start, .int j_token, .int j_value, .int j_fault, .int j_place, .int j_latest, .ref m_low, .ref m_high, .ref m_first, .ref m_second, .ref m_lines, .ref m_others, .int j_shiftFirst, .int j_shiftMany, .int j_shiftLow, .int j_shiftHigh])), (m_now, .inl (kI, 192, .inl g_now)), (m_low, .inl (kI, 1000, .inl g_low)), (m_high, .inl (kI, 1000, .inl g_high)), (b, .inl (kZ, 200, .inl g_b))]) [0, 1, 2, 3, 4] rfl
  have hKc := hK.sub (tys' := [(kI, .int), (kZ, .boolean)]) [0, 1] rfl
  have hDc := hD.sub (ws' := [(h0, .inr (10, [.ref m_now, .ref m_draft, .ref m_past, .int j_acts, .ref m_images, .ref m_kept, .ref m_tape, .int j_taped, .int j_at, .int j_start, .int j_token, .int j_value, .int j_fault, .int j_place, .int j_latest, .ref m_low, .ref m_high, .ref m_first, .ref m_second, .ref m_lines, .ref m_others, .int j_shiftFirst, .int j_shiftMany, .int j_shiftLow, .int j_shiftHigh])), (m_now, .inl (kI, 192, .inl g_now)), (m_low, .inl (kI, 1000, .inl g_low)), (m_high, .inl (kI, 1000, .inl g_high)), (b, .inl (kZ, 200, .inl g_b))]) [0, 1, 2, 3, 4] (by decide) rfl
  have hFc := va_free (wc := [(h0, .inr (10, [.ref m_now, .ref m_draft, .ref m_past, .int j_acts, .ref m_images, .ref m_kept, .ref m_tape, .int j_taped, .int j_at, .int j_start, .int j_token, .int j_value, .int j_fault, .int j_place, .int j_latest, .ref m_low, .ref m_high, .ref m_first, .ref m_second, .ref m_lines, .ref m_others, .int j_shiftFirst, .int j_shiftMany, .int j_shiftLow, .int j_shiftHigh])), (m_now, .inl (kI, 192, .inl g_now)), (m_low, .inl (kI, 1000, .inl g_low)), (m_high, .inl (kI, 1000, .inl g_high)), (b, .inl (kZ, 200, .inl g_b))]) hD hS hA [0, 1, 2, 3, 4] rfl
  refine va_callv (va_runV (As := [.int i_e, .int r1, .int r2, .ref b]) (rest := []) ⟨hx, hb, hml, hown, hts⟩ (c_X10_laysSpan l D h0 i_e r1 r2 b m_now m_draft m_past j_acts m_images m_kept m_tape j_taped j_at j_start j_token j_value j_fault j_place j_latest m_low m_high m_first m_second m_lines m_others j_shiftFirst j_shiftMany j_shiftLow j_shiftHigh kI g_now g_low g_high kZ g_b H.size (by first | decide | omega) (by first | decide | omega) hg_now hg_low hg_high) (cwV 4 hts g_X10_laysLines_X10_laysSpan rfl rfl rfl (by decide +kernel) ⟨Nat.le_of_ble_eq_true rfl, Nat.le_of_ble_eq_true rfl⟩) ⟨fun a U g mk q => by obtain ⟨q0, q1, qP, qK, qD⟩ := q; exact ⟨q0, q1, qP, va_K.moved (u := U) (U := U.calling g mk a) (Vm.Alike.refl U.vm) qK, qD⟩, va_recv hKc hPc (ci := 10) (q0 := 0) rfl rfl, fun U hU hW => ⟨rfl, by rw [hU], by rw [hU]; exact hPc, va_K.moved hW.alike hKc, hDc.weaken (fun _ _ _ _ => trivial)⟩⟩ rfl rfl hl.1 rfl (lv_room (Nat.le_of_ble_eq_true rfl)) dX10_laysLines_14 ⟨Nat.le_of_ble_eq_true rfl, Nat.le_of_ble_eq_true rfl⟩) hS (fun q _ h => hFc q h) hFc (fun u t H1 locs ht hvm hw hB hz1 hk1 hS => ?_)
  obtain ⟨y4, hP1, hK1, hD1⟩ := hB
  rw [ht] at hP1
  have hK1 := va_K.moved hvm.symm hK1
  obtain ⟨hP, hD⟩ := va_join (wr := []) (w1 := [(h0, .inr (10, [.ref m_now, .ref m_draft, .ref m_past, .int j_acts, .ref m_images, .ref m_kept, .ref m_tape, .int j_taped, .int j_at, .int j_start, .int j_token, .int j_value, .int j_fault, .int j_place, .int j_latest, .ref m_low, .ref m_high, .ref m_first, .ref m_second, .ref m_lines, .ref m_others, .int j_shiftFirst, .int j_shiftMany, .int j_shiftLow, .int j_shiftHigh])), (m_now, .inl (kI, 192, .inl g_now)), (m_low, .inl (kI, 1000, .inl g_low)), (m_high, .inl (kI, 1000, .inl g_high)), (b, .inl (kZ, 200, .inl y4))]) hP hD [0, 1, 2, 3, 4] [] rfl rfl (by decide) (by decide) hk1 hFc hP1 hD1
  have hK := (hK.sub (tys' := [(kI, .int), (kZ, .boolean)]) [0, 1] rfl).app hK1
  generalize H1 = H at hP hS ⊢
  have hP : va_P D vwCl [(h0, .inr (10, [.ref m_now, .ref m_draft, .ref m_past, .int j_acts, .ref m_images, .ref m_kept, .ref m_tape, .int j_taped, .int j_at, .int j_start, .int j_token, .int j_value, .int j_fault, .int j_place, .int j_latest, .ref m_low, .ref m_high, .ref m_first, .ref m_second, .ref m_lines, .ref m_others, .int j_shiftFirst, .int j_shiftMany, .int j_shiftLow, .int j_shiftHigh])), (m_now, .inl (kI, 192, .inl g_now)), (m_low, .inl (kI, 1000, .inl g_low)), (m_high, .inl (kI, 1000, .inl g_high)), (b, .inl (kZ, 200, .inl y4))] H := hP
  have hD : va_D A [(h0, .inr (10, [.ref m_now, .ref m_draft, .ref m_past, .int j_acts, .ref m_images, .ref m_kept, .ref m_tape, .int j_taped, .int j_at, .int j_start, .int j_token, .int j_value, .int j_fault, .int j_place, .int j_latest, .ref m_low, .ref m_high, .ref m_first, .ref m_second, .ref m_lines, .ref m_others, .int j_shiftFirst, .int j_shiftMany, .int j_shiftLow, .int j_shiftHigh])), (m_now, .inl (kI, 192, .inl g_now)), (m_low, .inl (kI, 1000, .inl g_low)), (m_high, .inl (kI, 1000, .inl g_high)), (b, .inl (kZ, 200, .inl y4))] := hD
  have hK : va_K D vwCl [(kI, .int), (kZ, .boolean), (kI, .int), (kZ, .boolean)] s := hK
  refine W.widen (k := 0) (n := 0) (Nat.le_of_ble_eq_true rfl) (Nat.le_of_ble_eq_true rfl) ?_
  have hP9 := hP.sub (ws' := [(h0, .inr (10, [.ref m_now, .ref m_draft, .ref m_past, .int j_acts, .ref m_images, .ref m_kept, .ref m_tape, .int j_taped, .int j_at, .int j_start, .int j_token, .int j_value, .int j_fault, .int j_place, .int j_latest, .ref m_low, .ref m_high, .ref m_first, .ref m_second, .ref m_lines, .ref m_others, .int j_shiftFirst, .int j_shiftMany, .int j_shiftLow, .int j_shiftHigh])), (m_now, .inl (kI, 192, .inl g_now)), (m_low, .inl (kI, 1000, .inl g_low)), (m_high, .inl (kI, 1000, .inl g_high)), (b, .inl (kZ, 200, .inl y4))]) [0, 1, 2, 3, 4] rfl
  have hD9 := hD.sub (ws' := [(h0, .inr (10, [.ref m_now, .ref m_draft, .ref m_past, .int j_acts, .ref m_images, .ref m_kept, .ref m_tape, .int j_taped, .int j_at, .int j_start, .int j_token, .int j_value, .int j_fault, .int j_place, .int j_latest, .ref m_low, .ref m_high, .ref m_first, .ref m_second, .ref m_lines, .ref m_others, .int j_shiftFirst, .int j_shiftMany, .int j_shiftLow, .int j_shiftHigh])), (m_now, .inl (kI, 192, .inl g_now)), (m_low, .inl (kI, 1000, .inl g_low)), (m_high, .inl (kI, 1000, .inl g_high)), (b, .inl (kZ, 200, .inl y4))]) [0, 1, 2, 3, 4] (by decide) rfl
  have hK9 := hK.sub (tys' := [(kI, .int), (kZ, .boolean)]) [0, 1] rfl
  refine W.widen (k := 0) (n := 0) (Nat.le_of_ble_eq_true rfl) (Nat.le_of_ble_eq_true rfl) ?_
  exact W.vret hx hb hr (fun t ht hW => ⟨⟨(), rfl, trivial, y4, by rw [ht]; exact hP9, va_K.moved hW.alike hK9, hD9⟩, hS.F ht⟩) hS.2.2 dX10_laysLines_17
def w_X10_isMore : List Cond := .code yX10_isMore cX10_isMore 5 (some .boolean) :: ([.fieldLink RX10 264 "LineCitesModel" "shiftMany" "I", .fieldLink RX10 267 "LineCitesModel" "shiftFirst" "I", .fieldLink RX10 273 "LineCitesModel" "shiftLow" "I", .fieldLink RX10 270 "LineCitesModel" "shiftHigh" "I"] ++ wsX100)
set_option maxHeartbeats 4000000 in
set_option maxRecDepth 100000 in
theorem c_X10_isMore (l : Launch) (D : va_G) (h0 : Nat) (i_n : Int32) (i_a : Int32) (i_b : Int32) (m_now : Nat) (m_draft : Nat) (m_past : Nat) (j_acts : Int32) (m_images : Nat) (m_kept : Nat) (m_tape : Nat) (j_taped : Int32) (j_at : Int32) (j_start : Int32) (j_token : Int32) (j_value : Int32) (j_fault : Int32) (j_place : Int32) (j_latest : Int32) (m_low : Nat) (m_high : Nat) (m_first : Nat) (m_second : Nat) (m_lines : Nat) (m_others : Nat) (j_shiftFirst : Int32) (j_shiftMany : Int32) (j_shiftLow : Int32) (j_shiftHigh : Int32) (sz : Nat) : Met l yX10_isMore w_X10_isMore ({ frames := 0, cells := 0, slots := 0, locals := 0 }) (va_Pc [.ref h0, .int i_n, .int i_a, .int i_b] (fun U => U.heap.size = sz ∧ va_P D vwCl [(h0, .inr (10, [.ref m_now, .ref m_draft, .ref m_past, .int j_acts, .ref m_images, .ref m_kept, .ref m_tape, .int j_taped, .int j_at, .int j_start, .int j_token, .int j_value, .int j_fault, .int j_place, .int j_latest, .ref m_low, .ref m_high, .ref m_first, .ref m_second, .ref m_lines, .ref m_others, .int j_shiftFirst, .int j_shiftMany, .int j_shiftLow, .int j_shiftHigh]))] U.heap ∧ va_K D vwCl [] U ∧ va_D (fun _ => True) [(h0, .inr (10, [.ref m_now, .ref m_draft, .ref m_past, .int j_acts, .ref m_images, .ref m_kept, .ref m_tape, .int j_taped, .int j_at, .int j_start, .int j_token, .int j_value, .int j_fault, .int j_place, .int j_latest, .ref m_low, .ref m_high, .ref m_first, .ref m_second, .ref m_lines, .ref m_others, .int j_shiftFirst, .int j_shiftMany, .int j_shiftLow, .int j_shiftHigh]))])) (va_Qi (fun (r : Int32) (_ : Unit) => (r = 0 ∨ r = 1) ∧ True) (fun (_ : Unit) t => ∃ (n_shiftFirst : Int32) (n_shiftMany : Int32) (n_shiftLow : Int32) (n_shiftHigh : Int32), va_P D vwCl [(h0, .inr (10, [.ref m_now, .ref m_draft, .ref m_past, .int j_acts, .ref m_images, .ref m_kept, .ref m_tape, .int j_taped, .int j_at, .int j_start, .int j_token, .int j_value, .int j_fault, .int j_place, .int j_latest, .ref m_low, .ref m_high, .ref m_first, .ref m_second, .ref m_lines, .ref m_others, .int n_shiftFirst, .int n_shiftMany, .int n_shiftLow, .int n_shiftHigh]))] t.heap ∧ va_K D vwCl [] t ∧ va_D (va_A [(h0, .inr (10, [.ref m_now, .ref m_draft, .ref m_past, .int j_acts, .ref m_images, .ref m_kept, .ref m_tape, .int j_taped, .int j_at, .int j_start, .int j_token, .int j_value, .int j_fault, .int j_place, .int j_latest, .ref m_low, .ref m_high, .ref m_first, .ref m_second, .ref m_lines, .ref m_others, .int j_shiftFirst, .int j_shiftMany, .int j_shiftLow, .int j_shiftHigh]))] sz) [(h0, .inr (10, [.ref m_now, .ref m_draft, .ref m_past, .int j_acts, .ref m_images, .ref m_kept, .ref m_tape, .int j_taped, .int j_at, .int j_start, .int j_token, .int j_value, .int j_fault, .int j_place, .int j_latest, .ref m_low, .ref m_high, .ref m_first, .ref m_second, .ref m_lines, .ref m_others, .int n_shiftFirst, .int n_shiftMany, .int n_shiftLow, .int n_shiftHigh]))]) (va_A [(h0, .inr (10, [.ref m_now, .ref m_draft, .ref m_past, .int j_acts, .ref m_images, .ref m_kept, .ref m_tape, .int j_taped, .int j_at, .int j_start, .int j_token, .int j_value, .int j_fault, .int j_place, .int j_latest, .ref m_low, .ref m_high, .ref m_first, .ref m_second, .ref m_lines, .ref m_others, .int j_shiftFirst, .int j_shiftMany, .int j_shiftLow, .int j_shiftHigh]))] sz)) 0 0 (va_A [(h0, .inr (10, [.ref m_now, .ref m_draft, .ref m_past, .int j_acts, .ref m_images, .ref m_kept, .ref m_tape, .int j_taped, .int j_at, .int j_start, .int j_token, .int j_value, .int j_fault, .int j_place, .int j_latest, .ref m_low, .ref m_high, .ref m_first, .ref m_second, .ref m_lines, .ref m_others, .int j_shiftFirst, .int j_shiftMany, .int j_shiftLow, .int j_shiftHigh]))] sz) := by
  refine Met.ofW (cc := cX10_isMore) (maxL := 5) (ret := (some .boolean)) (by decide) rfl ?_
  intro p e s m args below meth c s₁ B hml hv
  obtain ⟨rfl, hsz, hP, hK, hD0⟩ := hv
  have hx := B.exec
  have hb := B.bytes
  have hr := B.returns
  have hts := atoms_spec (ws := w_X10_isMore) B.pre
  have hown : s.vm.findClass RX10 = some m.cls := findClass_of_methodNamed B.named
  have hlocks := B.notSynchronized
  subst hsz
  have hD := hD0.self (sz := s.heap.size)
  generalize hAe : va_A [(h0, .inr (10, [.ref m_now, .ref m_draft, .ref m_past, .int j_acts, .ref m_images, .ref m_kept, .ref m_tape, .int j_taped, .int j_at, .int j_start, .int j_token, .int j_value, .int j_fault, .int j_place, .int j_latest, .ref m_low, .ref m_high, .ref m_first, .ref m_second, .ref m_lines, .ref m_others, .int j_shiftFirst, .int j_shiftMany, .int j_shiftLow, .int j_shiftHigh]))] s.heap.size = A at hD ⊢
  have hA : ∀ q : Nat, s.heap.size ≤ q → A q := fun q h => by rw [← hAe]; exact Or.inr h
  have hS : va_S A s.heap s.heap [] := va_S.rf
  have hP : va_P D vwCl [(h0, .inr (10, [.ref m_now, .ref m_draft, .ref m_past, .int j_acts, .ref m_images, .ref m_kept, .ref m_tape, .int j_taped, .int j_at, .int j_start, .int j_token, .int j_value, .int j_fault, .int j_place, .int j_latest, .ref m_low, .ref m_high, .ref m_first, .ref m_second, .ref m_lines, .ref m_others, .int j_shiftFirst, .int j_shiftMany, .int j_shiftLow, .int j_shiftHigh]))] s.heap := hP
  have hl := lv_entry ([.ref h0, .int i_n, .int i_a, .int i_b]) (n := 5) (Nat.le_of_ble_eq_true rfl)
  rw [lg_entry_eq]
  generalize (lg_sl ([.ref h0, .int i_n, .int i_a, .int i_b]) ++ List.replicate (5 - (lg_sl ([.ref h0, .int i_n, .int i_a, .int i_b])).length) Slot.unset).toArray = ls at hl ⊢
  have hl : lv_has ls 5 [(0, .ref h0), (1, .int i_n), (2, .int i_a), (3, .int i_b)] := hl
  obtain ⟨H, hHe⟩ : ∃ H : Heap, H = s.heap := ⟨_, rfl⟩
  rw [← hHe] at hP
  have hS : va_S A s.heap H [] := by rw [hHe]; exact hS
  refine pw_heap hHe ?_
  refine lv_aload_n hx hb dX10_isMore_0 rfl (lv_at hl 0 rfl) ?_
  refine va_get (D := D) (ci := 10) (v := .int j_shiftMany) (C := RX10) (T := TX10) (N := 25) hx hb hts (fun _ h => List.mem_cons_of_mem _ (List.mem_append_right _ h)) hown hK hP 0 rfl rfl 22 (by decide) (hts (.fieldLink RX10 264 "LineCitesModel" "shiftMany" "I") (List.mem_of_getElem? (i := 1) rfl)) (fun _ h9 => h9) rfl dX10_isMore_1 ?_
  refine lv_if_le (tgt := 44) hx hb dX10_isMore_4 (by decide) (fun c1 => ?_) (fun c1 => ?_)
  · have nc1 : j_shiftMany.toInt ≤ 0 := pw_le c1 rfl (by decide)
    refine lv_iconst (v := 0) hx hb dX10_isMore_44 (by decide) ?_
    refine lv_istore (lv' := [(4, .int 0), (0, .ref h0), (1, .int i_n), (2, .int i_a), (3, .int i_b)]) hx hb dX10_isMore_45 hl (by decide) rfl (fun ls hl => ?_)
    refine lv_iload hx hb dX10_isMore_47 (lv_at hl 0 rfl) ?_
    refine lv_if_eq (tgt := 113) hx hb dX10_isMore_49 (by decide) (fun c2 => ?_) (fun c2 => absurd (by decide) c2)
    refine lv_aload_n hx hb dX10_isMore_113 rfl (lv_at hl 1 rfl) ?_
    refine lv_iload_n hx hb dX10_isMore_114 rfl (lv_at hl 2 rfl) ?_
    refine va_put (D := D) (ci := 10) (v := .int i_n) (ty := .int) (C := RX10) (T := TX10) (N := 25) hx hb hts (fun _ h => List.mem_cons_of_mem _ (List.mem_append_right _ h)) tyX10 tyX10_ok nmX10 hown hK hP hD hS 0 rfl rfl 21 (by decide) (hts (.fieldLink RX10 267 "LineCitesModel" "shiftFirst" "I") (List.mem_of_getElem? (i := 2) rfl)) (fun _ h9 => h9) rfl (by decide +kernel) rfl rfl (Nat.le_of_ble_eq_true rfl) dX10_isMore_115 (fun H locs hP hD hS => ?_)
    have hP : va_P D vwCl [(h0, .inr (10, [.ref m_now, .ref m_draft, .ref m_past, .int j_acts, .ref m_images, .ref m_kept, .ref m_tape, .int j_taped, .int j_at, .int j_start, .int j_token, .int j_value, .int j_fault, .int j_place, .int j_latest, .ref m_low, .ref m_high, .ref m_first, .ref m_second, .ref m_lines, .ref m_others, .int i_n, .int j_shiftMany, .int j_shiftLow, .int j_shiftHigh]))] H := hP
    have hD : va_D A [(h0, .inr (10, [.ref m_now, .ref m_draft, .ref m_past, .int j_acts, .ref m_images, .ref m_kept, .ref m_tape, .int j_taped, .int j_at, .int j_start, .int j_token, .int j_value, .int j_fault, .int j_place, .int j_latest, .ref m_low, .ref m_high, .ref m_first, .ref m_second, .ref m_lines, .ref m_others, .int i_n, .int j_shiftMany, .int j_shiftLow, .int j_shiftHigh]))] := hD
    have hK : va_K D vwCl [] s := hK
    refine lv_aload_n hx hb dX10_isMore_118 rfl (lv_at hl 1 rfl) ?_
    refine lv_iconst (v := 1) hx hb dX10_isMore_119 (by decide) ?_
    refine va_put (D := D) (ci := 10) (v := .int 1) (ty := .int) (C := RX10) (T := TX10) (N := 25) hx hb hts (fun _ h => List.mem_cons_of_mem _ (List.mem_append_right _ h)) tyX10 tyX10_ok nmX10 hown hK hP hD hS 0 rfl rfl 22 (by decide) (hts (.fieldLink RX10 264 "LineCitesModel" "shiftMany" "I") (List.mem_of_getElem? (i := 1) rfl)) (fun _ h9 => h9) rfl (by decide +kernel) rfl rfl (Nat.le_of_ble_eq_true rfl) dX10_isMore_120 (fun H locs hP hD hS => ?_)
    have hP : va_P D vwCl [(h0, .inr (10, [.ref m_now, .ref m_draft, .ref m_past, .int j_acts, .ref m_images, .ref m_kept, .ref m_tape, .int j_taped, .int j_at, .int j_start, .int j_token, .int j_value, .int j_fault, .int j_place, .int j_latest, .ref m_low, .ref m_high, .ref m_first, .ref m_second, .ref m_lines, .ref m_others, .int i_n, .int 1, .int j_shiftLow, .int j_shiftHigh]))] H := hP
    have hD : va_D A [(h0, .inr (10, [.ref m_now, .ref m_draft, .ref m_past, .int j_acts, .ref m_images, .ref m_kept, .ref m_tape, .int j_taped, .int j_at, .int j_start, .int j_token, .int j_value, .int j_fault, .int j_place, .int j_latest, .ref m_low, .ref m_high, .ref m_first, .ref m_second, .ref m_lines, .ref m_others, .int i_n, .int 1, .int j_shiftLow, .int j_shiftHigh]))] := hD
    have hK : va_K D vwCl [] s := hK
    refine lv_aload_n hx hb dX10_isMore_123 rfl (lv_at hl 1 rfl) ?_
    refine lv_iload_n hx hb dX10_isMore_124 rfl (lv_at hl 3 rfl) ?_
    refine lv_iload_n hx hb dX10_isMore_125 rfl (lv_at hl 2 rfl) ?_
    refine lv_isub hx hb dX10_isMore_126 ?_
    refine lv_topi (fun x3 ex3 => ?_)
    refine va_put (D := D) (ci := 10) (v := .int x3) (ty := .int) (C := RX10) (T := TX10) (N := 25) hx hb hts (fun _ h => List.mem_cons_of_mem _ (List.mem_append_right _ h)) tyX10 tyX10_ok nmX10 hown hK hP hD hS 0 rfl rfl 23 (by decide) (hts (.fieldLink RX10 273 "LineCitesModel" "shiftLow" "I") (List.mem_of_getElem? (i := 3) rfl)) (fun _ h9 => h9) rfl (by decide +kernel) rfl rfl (Nat.le_of_ble_eq_true rfl) dX10_isMore_127 (fun H locs hP hD hS => ?_)
    have hP : va_P D vwCl [(h0, .inr (10, [.ref m_now, .ref m_draft, .ref m_past, .int j_acts, .ref m_images, .ref m_kept, .ref m_tape, .int j_taped, .int j_at, .int j_start, .int j_token, .int j_value, .int j_fault, .int j_place, .int j_latest, .ref m_low, .ref m_high, .ref m_first, .ref m_second, .ref m_lines, .ref m_others, .int i_n, .int 1, .int x3, .int j_shiftHigh]))] H := hP
    have hD : va_D A [(h0, .inr (10, [.ref m_now, .ref m_draft, .ref m_past, .int j_acts, .ref m_images, .ref m_kept, .ref m_tape, .int j_taped, .int j_at, .int j_start, .int j_token, .int j_value, .int j_fault, .int j_place, .int j_latest, .ref m_low, .ref m_high, .ref m_first, .ref m_second, .ref m_lines, .ref m_others, .int i_n, .int 1, .int x3, .int j_shiftHigh]))] := hD
    have hK : va_K D vwCl [] s := hK
    refine lv_aload_n hx hb dX10_isMore_130 rfl (lv_at hl 1 rfl) ?_
    refine lv_iload_n hx hb dX10_isMore_131 rfl (lv_at hl 4 rfl) ?_
    refine lv_iload_n hx hb dX10_isMore_132 rfl (lv_at hl 2 rfl) ?_
    refine lv_isub hx hb dX10_isMore_133 ?_
    refine lv_topi (fun x4 ex4 => ?_)
    refine va_put (D := D) (ci := 10) (v := .int x4) (ty := .int) (C := RX10) (T := TX10) (N := 25) hx hb hts (fun _ h => List.mem_cons_of_mem _ (List.mem_append_right _ h)) tyX10 tyX10_ok nmX10 hown hK hP hD hS 0 rfl rfl 24 (by decide) (hts (.fieldLink RX10 270 "LineCitesModel" "shiftHigh" "I") (List.mem_of_getElem? (i := 4) rfl)) (fun _ h9 => h9) rfl (by decide +kernel) rfl rfl (Nat.le_of_ble_eq_true rfl) dX10_isMore_134 (fun H locs hP hD hS => ?_)
    have hP : va_P D vwCl [(h0, .inr (10, [.ref m_now, .ref m_draft, .ref m_past, .int j_acts, .ref m_images, .ref m_kept, .ref m_tape, .int j_taped, .int j_at, .int j_start, .int j_token, .int j_value, .int j_fault, .int j_place, .int j_latest, .ref m_low, .ref m_high, .ref m_first, .ref m_second, .ref m_lines, .ref m_others, .int i_n, .int 1, .int x3, .int x4]))] H := hP
    have hD : va_D A [(h0, .inr (10, [.ref m_now, .ref m_draft, .ref m_past, .int j_acts, .ref m_images, .ref m_kept, .ref m_tape, .int j_taped, .int j_at, .int j_start, .int j_token, .int j_value, .int j_fault, .int j_place, .int j_latest, .ref m_low, .ref m_high, .ref m_first, .ref m_second, .ref m_lines, .ref m_others, .int i_n, .int 1, .int x3, .int x4]))] := hD
    have hK : va_K D vwCl [] s := hK
    refine lv_iload hx hb dX10_isMore_137 (lv_at hl 0 rfl) ?_
    have hP9 := hP.sub (ws' := [(h0, .inr (10, [.ref m_now, .ref m_draft, .ref m_past, .int j_acts, .ref m_images, .ref m_kept, .ref m_tape, .int j_taped, .int j_at, .int j_start, .int j_token, .int j_value, .int j_fault, .int j_place, .int j_latest, .ref m_low, .ref m_high, .ref m_first, .ref m_second, .ref m_lines, .ref m_others, .int i_n, .int 1, .int x3, .int x4]))]) [0] rfl
    have hD9 := hD.sub (ws' := [(h0, .inr (10, [.ref m_now, .ref m_draft, .ref m_past, .int j_acts, .ref m_images, .ref m_kept, .ref m_tape, .int j_taped, .int j_at, .int j_start, .int j_token, .int j_value, .int j_fault, .int j_place, .int j_latest, .ref m_low, .ref m_high, .ref m_first, .ref m_second, .ref m_lines, .ref m_others, .int i_n, .int 1, .int x3, .int x4]))]) [0] (by decide) rfl
    have hK9 := hK.sub (tys' := []) [] rfl
    refine W.widen (k := 0) (n := 0) (Nat.le_of_ble_eq_true rfl) (Nat.le_of_ble_eq_true rfl) ?_
    exact W.zret (v := 0) (ty := .boolean) hx hb hr rfl (fun t ht hW => ⟨⟨0, (), rfl, ⟨Or.inl rfl, trivial⟩, i_n, 1, x3, x4, by rw [ht]; exact hP9, va_K.moved hW.alike hK9, hD9⟩, hS.F ht⟩) hS.2.2 dX10_isMore_139
  · have nc1 : 0 < j_shiftMany.toInt := pw_nle c1 rfl (by decide)
    refine lv_aload_n hx hb dX10_isMore_7 rfl (lv_at hl 0 rfl) ?_
    refine va_get (D := D) (ci := 10) (v := .int j_shiftFirst) (C := RX10) (T := TX10) (N := 25) hx hb hts (fun _ h => List.mem_cons_of_mem _ (List.mem_append_right _ h)) hown hK hP 0 rfl rfl 21 (by decide) (hts (.fieldLink RX10 267 "LineCitesModel" "shiftFirst" "I") (List.mem_of_getElem? (i := 2) rfl)) (fun _ h9 => h9) rfl dX10_isMore_8 ?_
    refine lv_aload_n hx hb dX10_isMore_11 rfl (lv_at hl 0 rfl) ?_
    refine va_get (D := D) (ci := 10) (v := .int j_shiftMany) (C := RX10) (T := TX10) (N := 25) hx hb hts (fun _ h => List.mem_cons_of_mem _ (List.mem_append_right _ h)) hown hK hP 0 rfl rfl 22 (by decide) (hts (.fieldLink RX10 264 "LineCitesModel" "shiftMany" "I") (List.mem_of_getElem? (i := 1) rfl)) (fun _ h9 => h9) rfl dX10_isMore_12 ?_
    refine lv_iadd hx hb dX10_isMore_15 ?_
    refine lv_topi (fun x5 ex5 => ?_)
    refine lv_iload_n hx hb dX10_isMore_16 rfl (lv_at hl 1 rfl) ?_
    refine lv_icmp_ne (tgt := 44) hx hb dX10_isMore_17 (by decide) (fun c6 => ?_) (fun c6 => ?_)
    · have nc6 : x5.toInt ≠ i_n.toInt := pw_ne c6 rfl rfl
      have mc6x5 := pw_max x5
      have mc6i_n := pw_max i_n
      refine lv_iconst (v := 0) hx hb dX10_isMore_44 (by decide) ?_
      refine lv_istore (lv' := [(4, .int 0), (0, .ref h0), (1, .int i_n), (2, .int i_a), (3, .int i_b)]) hx hb dX10_isMore_45 hl (by decide) rfl (fun ls hl => ?_)
      refine lv_iload hx hb dX10_isMore_47 (lv_at hl 0 rfl) ?_
      refine lv_if_eq (tgt := 113) hx hb dX10_isMore_49 (by decide) (fun c7 => ?_) (fun c7 => absurd (by decide) c7)
      refine lv_aload_n hx hb dX10_isMore_113 rfl (lv_at hl 1 rfl) ?_
      refine lv_iload_n hx hb dX10_isMore_114 rfl (lv_at hl 2 rfl) ?_
      refine va_put (D := D) (ci := 10) (v := .int i_n) (ty := .int) (C := RX10) (T := TX10) (N := 25) hx hb hts (fun _ h => List.mem_cons_of_mem _ (List.mem_append_right _ h)) tyX10 tyX10_ok nmX10 hown hK hP hD hS 0 rfl rfl 21 (by decide) (hts (.fieldLink RX10 267 "LineCitesModel" "shiftFirst" "I") (List.mem_of_getElem? (i := 2) rfl)) (fun _ h9 => h9) rfl (by decide +kernel) rfl rfl (Nat.le_of_ble_eq_true rfl) dX10_isMore_115 (fun H locs hP hD hS => ?_)
      have hP : va_P D vwCl [(h0, .inr (10, [.ref m_now, .ref m_draft, .ref m_past, .int j_acts, .ref m_images, .ref m_kept, .ref m_tape, .int j_taped, .int j_at, .int j_start, .int j_token, .int j_value, .int j_fault, .int j_place, .int j_latest, .ref m_low, .ref m_high, .ref m_first, .ref m_second, .ref m_lines, .ref m_others, .int i_n, .int j_shiftMany, .int j_shiftLow, .int j_shiftHigh]))] H := hP
      have hD : va_D A [(h0, .inr (10, [.ref m_now, .ref m_draft, .ref m_past, .int j_acts, .ref m_images, .ref m_kept, .ref m_tape, .int j_taped, .int j_at, .int j_start, .int j_token, .int j_value, .int j_fault, .int j_place, .int j_latest, .ref m_low, .ref m_high, .ref m_first, .ref m_second, .ref m_lines, .ref m_others, .int i_n, .int j_shiftMany, .int j_shiftLow, .int j_shiftHigh]))] := hD
      have hK : va_K D vwCl [] s := hK
      refine lv_aload_n hx hb dX10_isMore_118 rfl (lv_at hl 1 rfl) ?_
      refine lv_iconst (v := 1) hx hb dX10_isMore_119 (by decide) ?_
      refine va_put (D := D) (ci := 10) (v := .int 1) (ty := .int) (C := RX10) (T := TX10) (N := 25) hx hb hts (fun _ h => List.mem_cons_of_mem _ (List.mem_append_right _ h)) tyX10 tyX10_ok nmX10 hown hK hP hD hS 0 rfl rfl 22 (by decide) (hts (.fieldLink RX10 264 "LineCitesModel" "shiftMany" "I") (List.mem_of_getElem? (i := 1) rfl)) (fun _ h9 => h9) rfl (by decide +kernel) rfl rfl (Nat.le_of_ble_eq_true rfl) dX10_isMore_120 (fun H locs hP hD hS => ?_)
      have hP : va_P D vwCl [(h0, .inr (10, [.ref m_now, .ref m_draft, .ref m_past, .int j_acts, .ref m_images, .ref m_kept, .ref m_tape, .int j_taped, .int j_at, .int j_start, .int j_token, .int j_value, .int j_fault, .int j_place, .int j_latest, .ref m_low, .ref m_high, .ref m_first, .ref m_second, .ref m_lines, .ref m_others, .int i_n, .int 1, .int j_shiftLow, .int j_shiftHigh]))] H := hP
      have hD : va_D A [(h0, .inr (10, [.ref m_now, .ref m_draft, .ref m_past, .int j_acts, .ref m_images, .ref m_kept, .ref m_tape, .int j_taped, .int j_at, .int j_start, .int j_token, .int j_value, .int j_fault, .int j_place, .int j_latest, .ref m_low, .ref m_high, .ref m_first, .ref m_second, .ref m_lines, .ref m_others, .int i_n, .int 1, .int j_shiftLow, .int j_shiftHigh]))] := hD
      have hK : va_K D vwCl [] s := hK
      refine lv_aload_n hx hb dX10_isMore_123 rfl (lv_at hl 1 rfl) ?_
      refine lv_iload_n hx hb dX10_isMore_124 rfl (lv_at hl 3 rfl) ?_
      refine lv_iload_n hx hb dX10_isMore_125 rfl (lv_at hl 2 rfl) ?_
      refine lv_isub hx hb dX10_isMore_126 ?_
      refine lv_topi (fun x8 ex8 => ?_)
      refine va_put (D := D) (ci := 10) (v := .int x8) (ty := .int) (C := RX10) (T := TX10) (N := 25) hx hb hts (fun _ h => List.mem_cons_of_mem _ (List.mem_append_right _ h)) tyX10 tyX10_ok nmX10 hown hK hP hD hS 0 rfl rfl 23 (by decide) (hts (.fieldLink RX10 273 "LineCitesModel" "shiftLow" "I") (List.mem_of_getElem? (i := 3) rfl)) (fun _ h9 => h9) rfl (by decide +kernel) rfl rfl (Nat.le_of_ble_eq_true rfl) dX10_isMore_127 (fun H locs hP hD hS => ?_)
      have hP : va_P D vwCl [(h0, .inr (10, [.ref m_now, .ref m_draft, .ref m_past, .int j_acts, .ref m_images, .ref m_kept, .ref m_tape, .int j_taped, .int j_at, .int j_start, .int j_token, .int j_value, .int j_fault, .int j_place, .int j_latest, .ref m_low, .ref m_high, .ref m_first, .ref m_second, .ref m_lines, .ref m_others, .int i_n, .int 1, .int x8, .int j_shiftHigh]))] H := hP
      have hD : va_D A [(h0, .inr (10, [.ref m_now, .ref m_draft, .ref m_past, .int j_acts, .ref m_images, .ref m_kept, .ref m_tape, .int j_taped, .int j_at, .int j_start, .int j_token, .int j_value, .int j_fault, .int j_place, .int j_latest, .ref m_low, .ref m_high, .ref m_first, .ref m_second, .ref m_lines, .ref m_others, .int i_n, .int 1, .int x8, .int j_shiftHigh]))] := hD
      have hK : va_K D vwCl [] s := hK
      refine lv_aload_n hx hb dX10_isMore_130 rfl (lv_at hl 1 rfl) ?_
      refine lv_iload_n hx hb dX10_isMore_131 rfl (lv_at hl 4 rfl) ?_
      refine lv_iload_n hx hb dX10_isMore_132 rfl (lv_at hl 2 rfl) ?_
      refine lv_isub hx hb dX10_isMore_133 ?_
      refine lv_topi (fun x9 ex9 => ?_)
      refine va_put (D := D) (ci := 10) (v := .int x9) (ty := .int) (C := RX10) (T := TX10) (N := 25) hx hb hts (fun _ h => List.mem_cons_of_mem _ (List.mem_append_right _ h)) tyX10 tyX10_ok nmX10 hown hK hP hD hS 0 rfl rfl 24 (by decide) (hts (.fieldLink RX10 270 "LineCitesModel" "shiftHigh" "I") (List.mem_of_getElem? (i := 4) rfl)) (fun _ h9 => h9) rfl (by decide +kernel) rfl rfl (Nat.le_of_ble_eq_true rfl) dX10_isMore_134 (fun H locs hP hD hS => ?_)
      have hP : va_P D vwCl [(h0, .inr (10, [.ref m_now, .ref m_draft, .ref m_past, .int j_acts, .ref m_images, .ref m_kept, .ref m_tape, .int j_taped, .int j_at, .int j_start, .int j_token, .int j_value, .int j_fault, .int j_place, .int j_latest, .ref m_low, .ref m_high, .ref m_first, .ref m_second, .ref m_lines, .ref m_others, .int i_n, .int 1, .int x8, .int x9]))] H := hP
      have hD : va_D A [(h0, .inr (10, [.ref m_now, .ref m_draft, .ref m_past, .int j_acts, .ref m_images, .ref m_kept, .ref m_tape, .int j_taped, .int j_at, .int j_start, .int j_token, .int j_value, .int j_fault, .int j_place, .int j_latest, .ref m_low, .ref m_high, .ref m_first, .ref m_second, .ref m_lines, .ref m_others, .int i_n, .int 1, .int x8, .int x9]))] := hD
      have hK : va_K D vwCl [] s := hK
      refine lv_iload hx hb dX10_isMore_137 (lv_at hl 0 rfl) ?_
      have hP9 := hP.sub (ws' := [(h0, .inr (10, [.ref m_now, .ref m_draft, .ref m_past, .int j_acts, .ref m_images, .ref m_kept, .ref m_tape, .int j_taped, .int j_at, .int j_start, .int j_token, .int j_value, .int j_fault, .int j_place, .int j_latest, .ref m_low, .ref m_high, .ref m_first, .ref m_second, .ref m_lines, .ref m_others, .int i_n, .int 1, .int x8, .int x9]))]) [0] rfl
      have hD9 := hD.sub (ws' := [(h0, .inr (10, [.ref m_now, .ref m_draft, .ref m_past, .int j_acts, .ref m_images, .ref m_kept, .ref m_tape, .int j_taped, .int j_at, .int j_start, .int j_token, .int j_value, .int j_fault, .int j_place, .int j_latest, .ref m_low, .ref m_high, .ref m_first, .ref m_second, .ref m_lines, .ref m_others, .int i_n, .int 1, .int x8, .int x9]))]) [0] (by decide) rfl
      have hK9 := hK.sub (tys' := []) [] rfl
      refine W.widen (k := 0) (n := 0) (Nat.le_of_ble_eq_true rfl) (Nat.le_of_ble_eq_true rfl) ?_
      exact W.zret (v := 0) (ty := .boolean) hx hb hr rfl (fun t ht hW => ⟨⟨0, (), rfl, ⟨Or.inl rfl, trivial⟩, i_n, 1, x8, x9, by rw [ht]; exact hP9, va_K.moved hW.alike hK9, hD9⟩, hS.F ht⟩) hS.2.2 dX10_isMore_139
    · have nc6 : x5.toInt = i_n.toInt := pw_eq c6 rfl rfl
      have mc6x5 := pw_max x5
      have mc6i_n := pw_max i_n
      refine lv_iload_n hx hb dX10_isMore_20 rfl (lv_at hl 2 rfl) ?_
      refine lv_iload_n hx hb dX10_isMore_21 rfl (lv_at hl 1 rfl) ?_
      refine lv_isub hx hb dX10_isMore_22 ?_
      refine lv_topi (fun x10 ex10 => ?_)
      refine lv_aload_n hx hb dX10_isMore_23 rfl (lv_at hl 0 rfl) ?_
      refine va_get (D := D) (ci := 10) (v := .int j_shiftHigh) (C := RX10) (T := TX10) (N := 25) hx hb hts (fun _ h => List.mem_cons_of_mem _ (List.mem_append_right _ h)) hown hK hP 0 rfl rfl 24 (by decide) (hts (.fieldLink RX10 270 "LineCitesModel" "shiftHigh" "I") (List.mem_of_getElem? (i := 4) rfl)) (fun _ h9 => h9) rfl dX10_isMore_24 ?_
      refine lv_icmp_gt (tgt := 44) hx hb dX10_isMore_27 (by decide) (fun c11 => ?_) (fun c11 => ?_)
      · have nc11 : j_shiftHigh.toInt < x10.toInt := pw_lt c11 rfl rfl
        have mc11x10 := pw_max x10
        have mc11j_shiftHigh := pw_max j_shiftHigh
        refine lv_iconst (v := 0) hx hb dX10_isMore_44 (by decide) ?_
        refine lv_istore (lv' := [(4, .int 0), (0, .ref h0), (1, .int i_n), (2, .int i_a), (3, .int i_b)]) hx hb dX10_isMore_45 hl (by decide) rfl (fun ls hl => ?_)
        refine lv_iload hx hb dX10_isMore_47 (lv_at hl 0 rfl) ?_
        refine lv_if_eq (tgt := 113) hx hb dX10_isMore_49 (by decide) (fun c12 => ?_) (fun c12 => absurd (by decide) c12)
        refine lv_aload_n hx hb dX10_isMore_113 rfl (lv_at hl 1 rfl) ?_
        refine lv_iload_n hx hb dX10_isMore_114 rfl (lv_at hl 2 rfl) ?_
        refine va_put (D := D) (ci := 10) (v := .int i_n) (ty := .int) (C := RX10) (T := TX10) (N := 25) hx hb hts (fun _ h => List.mem_cons_of_mem _ (List.mem_append_right _ h)) tyX10 tyX10_ok nmX10 hown hK hP hD hS 0 rfl rfl 21 (by decide) (hts (.fieldLink RX10 267 "LineCitesModel" "shiftFirst" "I") (List.mem_of_getElem? (i := 2) rfl)) (fun _ h9 => h9) rfl (by decide +kernel) rfl rfl (Nat.le_of_ble_eq_true rfl) dX10_isMore_115 (fun H locs hP hD hS => ?_)
        have hP : va_P D vwCl [(h0, .inr (10, [.ref m_now, .ref m_draft, .ref m_past, .int j_acts, .ref m_images, .ref m_kept, .ref m_tape, .int j_taped, .int j_at, .int j_start, .int j_token, .int j_value, .int j_fault, .int j_place, .int j_latest, .ref m_low, .ref m_high, .ref m_first, .ref m_second, .ref m_lines, .ref m_others, .int i_n, .int j_shiftMany, .int j_shiftLow, .int j_shiftHigh]))] H := hP
        have hD : va_D A [(h0, .inr (10, [.ref m_now, .ref m_draft, .ref m_past, .int j_acts, .ref m_images, .ref m_kept, .ref m_tape, .int j_taped, .int j_at, .int j_start, .int j_token, .int j_value, .int j_fault, .int j_place, .int j_latest, .ref m_low, .ref m_high, .ref m_first, .ref m_second, .ref m_lines, .ref m_others, .int i_n, .int j_shiftMany, .int j_shiftLow, .int j_shiftHigh]))] := hD
        have hK : va_K D vwCl [] s := hK
        refine lv_aload_n hx hb dX10_isMore_118 rfl (lv_at hl 1 rfl) ?_
        refine lv_iconst (v := 1) hx hb dX10_isMore_119 (by decide) ?_
        refine va_put (D := D) (ci := 10) (v := .int 1) (ty := .int) (C := RX10) (T := TX10) (N := 25) hx hb hts (fun _ h => List.mem_cons_of_mem _ (List.mem_append_right _ h)) tyX10 tyX10_ok nmX10 hown hK hP hD hS 0 rfl rfl 22 (by decide) (hts (.fieldLink RX10 264 "LineCitesModel" "shiftMany" "I") (List.mem_of_getElem? (i := 1) rfl)) (fun _ h9 => h9) rfl (by decide +kernel) rfl rfl (Nat.le_of_ble_eq_true rfl) dX10_isMore_120 (fun H locs hP hD hS => ?_)
        have hP : va_P D vwCl [(h0, .inr (10, [.ref m_now, .ref m_draft, .ref m_past, .int j_acts, .ref m_images, .ref m_kept, .ref m_tape, .int j_taped, .int j_at, .int j_start, .int j_token, .int j_value, .int j_fault, .int j_place, .int j_latest, .ref m_low, .ref m_high, .ref m_first, .ref m_second, .ref m_lines, .ref m_others, .int i_n, .int 1, .int j_shiftLow, .int j_shiftHigh]))] H := hP
        have hD : va_D A [(h0, .inr (10, [.ref m_now, .ref m_draft, .ref m_past, .int j_acts, .ref m_images, .ref m_kept, .ref m_tape, .int j_taped, .int j_at, .int j_start, .int j_token, .int j_value, .int j_fault, .int j_place, .int j_latest, .ref m_low, .ref m_high, .ref m_first, .ref m_second, .ref m_lines, .ref m_others, .int i_n, .int 1, .int j_shiftLow, .int j_shiftHigh]))] := hD
        have hK : va_K D vwCl [] s := hK
        refine lv_aload_n hx hb dX10_isMore_123 rfl (lv_at hl 1 rfl) ?_
        refine lv_iload_n hx hb dX10_isMore_124 rfl (lv_at hl 3 rfl) ?_
        refine lv_iload_n hx hb dX10_isMore_125 rfl (lv_at hl 2 rfl) ?_
        refine lv_isub hx hb dX10_isMore_126 ?_
        refine lv_topi (fun x13 ex13 => ?_)
        refine va_put (D := D) (ci := 10) (v := .int x13) (ty := .int) (C := RX10) (T := TX10) (N := 25) hx hb hts (fun _ h => List.mem_cons_of_mem _ (List.mem_append_right _ h)) tyX10 tyX10_ok nmX10 hown hK hP hD hS 0 rfl rfl 23 (by decide) (hts (.fieldLink RX10 273 "LineCitesModel" "shiftLow" "I") (List.mem_of_getElem? (i := 3) rfl)) (fun _ h9 => h9) rfl (by decide +kernel) rfl rfl (Nat.le_of_ble_eq_true rfl) dX10_isMore_127 (fun H locs hP hD hS => ?_)
        have hP : va_P D vwCl [(h0, .inr (10, [.ref m_now, .ref m_draft, .ref m_past, .int j_acts, .ref m_images, .ref m_kept, .ref m_tape, .int j_taped, .int j_at, .int j_start, .int j_token, .int j_value, .int j_fault, .int j_place, .int j_latest, .ref m_low, .ref m_high, .ref m_first, .ref m_second, .ref m_lines, .ref m_others, .int i_n, .int 1, .int x13, .int j_shiftHigh]))] H := hP
        have hD : va_D A [(h0, .inr (10, [.ref m_now, .ref m_draft, .ref m_past, .int j_acts, .ref m_images, .ref m_kept, .ref m_tape, .int j_taped, .int j_at, .int j_start, .int j_token, .int j_value, .int j_fault, .int j_place, .int j_latest, .ref m_low, .ref m_high, .ref m_first, .ref m_second, .ref m_lines, .ref m_others, .int i_n, .int 1, .int x13, .int j_shiftHigh]))] := hD
        have hK : va_K D vwCl [] s := hK
        refine lv_aload_n hx hb dX10_isMore_130 rfl (lv_at hl 1 rfl) ?_
        refine lv_iload_n hx hb dX10_isMore_131 rfl (lv_at hl 4 rfl) ?_
        refine lv_iload_n hx hb dX10_isMore_132 rfl (lv_at hl 2 rfl) ?_
        refine lv_isub hx hb dX10_isMore_133 ?_
        refine lv_topi (fun x14 ex14 => ?_)
        refine va_put (D := D) (ci := 10) (v := .int x14) (ty := .int) (C := RX10) (T := TX10) (N := 25) hx hb hts (fun _ h => List.mem_cons_of_mem _ (List.mem_append_right _ h)) tyX10 tyX10_ok nmX10 hown hK hP hD hS 0 rfl rfl 24 (by decide) (hts (.fieldLink RX10 270 "LineCitesModel" "shiftHigh" "I") (List.mem_of_getElem? (i := 4) rfl)) (fun _ h9 => h9) rfl (by decide +kernel) rfl rfl (Nat.le_of_ble_eq_true rfl) dX10_isMore_134 (fun H locs hP hD hS => ?_)
        have hP : va_P D vwCl [(h0, .inr (10, [.ref m_now, .ref m_draft, .ref m_past, .int j_acts, .ref m_images, .ref m_kept, .ref m_tape, .int j_taped, .int j_at, .int j_start, .int j_token, .int j_value, .int j_fault, .int j_place, .int j_latest, .ref m_low, .ref m_high, .ref m_first, .ref m_second, .ref m_lines, .ref m_others, .int i_n, .int 1, .int x13, .int x14]))] H := hP
        have hD : va_D A [(h0, .inr (10, [.ref m_now, .ref m_draft, .ref m_past, .int j_acts, .ref m_images, .ref m_kept, .ref m_tape, .int j_taped, .int j_at, .int j_start, .int j_token, .int j_value, .int j_fault, .int j_place, .int j_latest, .ref m_low, .ref m_high, .ref m_first, .ref m_second, .ref m_lines, .ref m_others, .int i_n, .int 1, .int x13, .int x14]))] := hD
        have hK : va_K D vwCl [] s := hK
        refine lv_iload hx hb dX10_isMore_137 (lv_at hl 0 rfl) ?_
        have hP9 := hP.sub (ws' := [(h0, .inr (10, [.ref m_now, .ref m_draft, .ref m_past, .int j_acts, .ref m_images, .ref m_kept, .ref m_tape, .int j_taped, .int j_at, .int j_start, .int j_token, .int j_value, .int j_fault, .int j_place, .int j_latest, .ref m_low, .ref m_high, .ref m_first, .ref m_second, .ref m_lines, .ref m_others, .int i_n, .int 1, .int x13, .int x14]))]) [0] rfl
        have hD9 := hD.sub (ws' := [(h0, .inr (10, [.ref m_now, .ref m_draft, .ref m_past, .int j_acts, .ref m_images, .ref m_kept, .ref m_tape, .int j_taped, .int j_at, .int j_start, .int j_token, .int j_value, .int j_fault, .int j_place, .int j_latest, .ref m_low, .ref m_high, .ref m_first, .ref m_second, .ref m_lines, .ref m_others, .int i_n, .int 1, .int x13, .int x14]))]) [0] (by decide) rfl
        have hK9 := hK.sub (tys' := []) [] rfl
        refine W.widen (k := 0) (n := 0) (Nat.le_of_ble_eq_true rfl) (Nat.le_of_ble_eq_true rfl) ?_
        exact W.zret (v := 0) (ty := .boolean) hx hb hr rfl (fun t ht hW => ⟨⟨0, (), rfl, ⟨Or.inl rfl, trivial⟩, i_n, 1, x13, x14, by rw [ht]; exact hP9, va_K.moved hW.alike hK9, hD9⟩, hS.F ht⟩) hS.2.2 dX10_isMore_139
      · have nc11 : x10.toInt ≤ j_shiftHigh.toInt := pw_nlt c11 rfl rfl
        have mc11x10 := pw_max x10
        have mc11j_shiftHigh := pw_max j_shiftHigh
        refine lv_iload_n hx hb dX10_isMore_30 rfl (lv_at hl 3 rfl) ?_
        refine lv_iload_n hx hb dX10_isMore_31 rfl (lv_at hl 1 rfl) ?_
        refine lv_isub hx hb dX10_isMore_32 ?_
        refine lv_topi (fun x15 ex15 => ?_)
        refine lv_aload_n hx hb dX10_isMore_33 rfl (lv_at hl 0 rfl) ?_
        refine va_get (D := D) (ci := 10) (v := .int j_shiftLow) (C := RX10) (T := TX10) (N := 25) hx hb hts (fun _ h => List.mem_cons_of_mem _ (List.mem_append_right _ h)) hown hK hP 0 rfl rfl 23 (by decide) (hts (.fieldLink RX10 273 "LineCitesModel" "shiftLow" "I") (List.mem_of_getElem? (i := 3) rfl)) (fun _ h9 => h9) rfl dX10_isMore_34 ?_
        refine lv_icmp_lt (tgt := 44) hx hb dX10_isMore_37 (by decide) (fun c16 => ?_) (fun c16 => ?_)
        · have nc16 : x15.toInt < j_shiftLow.toInt := pw_lt c16 rfl rfl
          have mc16x15 := pw_max x15
          have mc16j_shiftLow := pw_max j_shiftLow
          refine lv_iconst (v := 0) hx hb dX10_isMore_44 (by decide) ?_
          refine lv_istore (lv' := [(4, .int 0), (0, .ref h0), (1, .int i_n), (2, .int i_a), (3, .int i_b)]) hx hb dX10_isMore_45 hl (by decide) rfl (fun ls hl => ?_)
          refine lv_iload hx hb dX10_isMore_47 (lv_at hl 0 rfl) ?_
          refine lv_if_eq (tgt := 113) hx hb dX10_isMore_49 (by decide) (fun c17 => ?_) (fun c17 => absurd (by decide) c17)
          refine lv_aload_n hx hb dX10_isMore_113 rfl (lv_at hl 1 rfl) ?_
          refine lv_iload_n hx hb dX10_isMore_114 rfl (lv_at hl 2 rfl) ?_
          refine va_put (D := D) (ci := 10) (v := .int i_n) (ty := .int) (C := RX10) (T := TX10) (N := 25) hx hb hts (fun _ h => List.mem_cons_of_mem _ (List.mem_append_right _ h)) tyX10 tyX10_ok nmX10 hown hK hP hD hS 0 rfl rfl 21 (by decide) (hts (.fieldLink RX10 267 "LineCitesModel" "shiftFirst" "I") (List.mem_of_getElem? (i := 2) rfl)) (fun _ h9 => h9) rfl (by decide +kernel) rfl rfl (Nat.le_of_ble_eq_true rfl) dX10_isMore_115 (fun H locs hP hD hS => ?_)
          have hP : va_P D vwCl [(h0, .inr (10, [.ref m_now, .ref m_draft, .ref m_past, .int j_acts, .ref m_images, .ref m_kept, .ref m_tape, .int j_taped, .int j_at, .int j_start, .int j_token, .int j_value, .int j_fault, .int j_place, .int j_latest, .ref m_low, .ref m_high, .ref m_first, .ref m_second, .ref m_lines, .ref m_others, .int i_n, .int j_shiftMany, .int j_shiftLow, .int j_shiftHigh]))] H := hP
          have hD : va_D A [(h0, .inr (10, [.ref m_now, .ref m_draft, .ref m_past, .int j_acts, .ref m_images, .ref m_kept, .ref m_tape, .int j_taped, .int j_at, .int j_start, .int j_token, .int j_value, .int j_fault, .int j_place, .int j_latest, .ref m_low, .ref m_high, .ref m_first, .ref m_second, .ref m_lines, .ref m_others, .int i_n, .int j_shiftMany, .int j_shiftLow, .int j_shiftHigh]))] := hD
          have hK : va_K D vwCl [] s := hK
          refine lv_aload_n hx hb dX10_isMore_118 rfl (lv_at hl 1 rfl) ?_
          refine lv_iconst (v := 1) hx hb dX10_isMore_119 (by decide) ?_
          refine va_put (D := D) (ci := 10) (v := .int 1) (ty := .int) (C := RX10) (T := TX10) (N := 25) hx hb hts (fun _ h => List.mem_cons_of_mem _ (List.mem_append_right _ h)) tyX10 tyX10_ok nmX10 hown hK hP hD hS 0 rfl rfl 22 (by decide) (hts (.fieldLink RX10 264 "LineCitesModel" "shiftMany" "I") (List.mem_of_getElem? (i := 1) rfl)) (fun _ h9 => h9) rfl (by decide +kernel) rfl rfl (Nat.le_of_ble_eq_true rfl) dX10_isMore_120 (fun H locs hP hD hS => ?_)
          have hP : va_P D vwCl [(h0, .inr (10, [.ref m_now, .ref m_draft, .ref m_past, .int j_acts, .ref m_images, .ref m_kept, .ref m_tape, .int j_taped, .int j_at, .int j_start, .int j_token, .int j_value, .int j_fault, .int j_place, .int j_latest, .ref m_low, .ref m_high, .ref m_first, .ref m_second, .ref m_lines, .ref m_others, .int i_n, .int 1, .int j_shiftLow, .int j_shiftHigh]))] H := hP
          have hD : va_D A [(h0, .inr (10, [.ref m_now, .ref m_draft, .ref m_past, .int j_acts, .ref m_images, .ref m_kept, .ref m_tape, .int j_taped, .int j_at, .int j_start, .int j_token, .int j_value, .int j_fault, .int j_place, .int j_latest, .ref m_low, .ref m_high, .ref m_first, .ref m_second, .ref m_lines, .ref m_others, .int i_n, .int 1, .int j_shiftLow, .int j_shiftHigh]))] := hD
          have hK : va_K D vwCl [] s := hK
          refine lv_aload_n hx hb dX10_isMore_123 rfl (lv_at hl 1 rfl) ?_
          refine lv_iload_n hx hb dX10_isMore_124 rfl (lv_at hl 3 rfl) ?_
          refine lv_iload_n hx hb dX10_isMore_125 rfl (lv_at hl 2 rfl) ?_
          refine lv_isub hx hb dX10_isMore_126 ?_
          refine lv_topi (fun x18 ex18 => ?_)
          refine va_put (D := D) (ci := 10) (v := .int x18) (ty := .int) (C := RX10) (T := TX10) (N := 25) hx hb hts (fun _ h => List.mem_cons_of_mem _ (List.mem_append_right _ h)) tyX10 tyX10_ok nmX10 hown hK hP hD hS 0 rfl rfl 23 (by decide) (hts (.fieldLink RX10 273 "LineCitesModel" "shiftLow" "I") (List.mem_of_getElem? (i := 3) rfl)) (fun _ h9 => h9) rfl (by decide +kernel) rfl rfl (Nat.le_of_ble_eq_true rfl) dX10_isMore_127 (fun H locs hP hD hS => ?_)
          have hP : va_P D vwCl [(h0, .inr (10, [.ref m_now, .ref m_draft, .ref m_past, .int j_acts, .ref m_images, .ref m_kept, .ref m_tape, .int j_taped, .int j_at, .int j_start, .int j_token, .int j_value, .int j_fault, .int j_place, .int j_latest, .ref m_low, .ref m_high, .ref m_first, .ref m_second, .ref m_lines, .ref m_others, .int i_n, .int 1, .int x18, .int j_shiftHigh]))] H := hP
          have hD : va_D A [(h0, .inr (10, [.ref m_now, .ref m_draft, .ref m_past, .int j_acts, .ref m_images, .ref m_kept, .ref m_tape, .int j_taped, .int j_at, .int j_start, .int j_token, .int j_value, .int j_fault, .int j_place, .int j_latest, .ref m_low, .ref m_high, .ref m_first, .ref m_second, .ref m_lines, .ref m_others, .int i_n, .int 1, .int x18, .int j_shiftHigh]))] := hD
          have hK : va_K D vwCl [] s := hK
          refine lv_aload_n hx hb dX10_isMore_130 rfl (lv_at hl 1 rfl) ?_
          refine lv_iload_n hx hb dX10_isMore_131 rfl (lv_at hl 4 rfl) ?_
          refine lv_iload_n hx hb dX10_isMore_132 rfl (lv_at hl 2 rfl) ?_
          refine lv_isub hx hb dX10_isMore_133 ?_
          refine lv_topi (fun x19 ex19 => ?_)
          refine va_put (D := D) (ci := 10) (v := .int x19) (ty := .int) (C := RX10) (T := TX10) (N := 25) hx hb hts (fun _ h => List.mem_cons_of_mem _ (List.mem_append_right _ h)) tyX10 tyX10_ok nmX10 hown hK hP hD hS 0 rfl rfl 24 (by decide) (hts (.fieldLink RX10 270 "LineCitesModel" "shiftHigh" "I") (List.mem_of_getElem? (i := 4) rfl)) (fun _ h9 => h9) rfl (by decide +kernel) rfl rfl (Nat.le_of_ble_eq_true rfl) dX10_isMore_134 (fun H locs hP hD hS => ?_)
          have hP : va_P D vwCl [(h0, .inr (10, [.ref m_now, .ref m_draft, .ref m_past, .int j_acts, .ref m_images, .ref m_kept, .ref m_tape, .int j_taped, .int j_at, .int j_start, .int j_token, .int j_value, .int j_fault, .int j_place, .int j_latest, .ref m_low, .ref m_high, .ref m_first, .ref m_second, .ref m_lines, .ref m_others, .int i_n, .int 1, .int x18, .int x19]))] H := hP
          have hD : va_D A [(h0, .inr (10, [.ref m_now, .ref m_draft, .ref m_past, .int j_acts, .ref m_images, .ref m_kept, .ref m_tape, .int j_taped, .int j_at, .int j_start, .int j_token, .int j_value, .int j_fault, .int j_place, .int j_latest, .ref m_low, .ref m_high, .ref m_first, .ref m_second, .ref m_lines, .ref m_others, .int i_n, .int 1, .int x18, .int x19]))] := hD
          have hK : va_K D vwCl [] s := hK
          refine lv_iload hx hb dX10_isMore_137 (lv_at hl 0 rfl) ?_
          have hP9 := hP.sub (ws' := [(h0, .inr (10, [.ref m_now, .ref m_draft, .ref m_past, .int j_acts, .ref m_images, .ref m_kept, .ref m_tape, .int j_taped, .int j_at, .int j_start, .int j_token, .int j_value, .int j_fault, .int j_place, .int j_latest, .ref m_low, .ref m_high, .ref m_first, .ref m_second, .ref m_lines, .ref m_others, .int i_n, .int 1, .int x18, .int x19]))]) [0] rfl
          have hD9 := hD.sub (ws' := [(h0, .inr (10, [.ref m_now, .ref m_draft, .ref m_past, .int j_acts, .ref m_images, .ref m_kept, .ref m_tape, .int j_taped, .int j_at, .int j_start, .int j_token, .int j_value, .int j_fault, .int j_place, .int j_latest, .ref m_low, .ref m_high, .ref m_first, .ref m_second, .ref m_lines, .ref m_others, .int i_n, .int 1, .int x18, .int x19]))]) [0] (by decide) rfl
          have hK9 := hK.sub (tys' := []) [] rfl
          refine W.widen (k := 0) (n := 0) (Nat.le_of_ble_eq_true rfl) (Nat.le_of_ble_eq_true rfl) ?_
          exact W.zret (v := 0) (ty := .boolean) hx hb hr rfl (fun t ht hW => ⟨⟨0, (), rfl, ⟨Or.inl rfl, trivial⟩, i_n, 1, x18, x19, by rw [ht]; exact hP9, va_K.moved hW.alike hK9, hD9⟩, hS.F ht⟩) hS.2.2 dX10_isMore_139
        · have nc16 : j_shiftLow.toInt ≤ x15.toInt := pw_nlt c16 rfl rfl
          have mc16x15 := pw_max x15
          have mc16j_shiftLow := pw_max j_shiftLow
          refine lv_iconst (v := 1) hx hb dX10_isMore_40 (by decide) ?_
          refine lv_goto (tgt := 45) hx hb dX10_isMore_41 (by decide) ?_
          refine lv_istore (lv' := [(4, .int 1), (0, .ref h0), (1, .int i_n), (2, .int i_a), (3, .int i_b)]) hx hb dX10_isMore_45 hl (by decide) rfl (fun ls hl => ?_)
          refine lv_iload hx hb dX10_isMore_47 (lv_at hl 0 rfl) ?_
          refine lv_if_eq (tgt := 113) hx hb dX10_isMore_49 (by decide) (fun c20 => absurd c20 (by decide)) (fun c20 => ?_)
          refine lv_aload_n hx hb dX10_isMore_52 rfl (lv_at hl 1 rfl) ?_
          refine lv_iload_n hx hb dX10_isMore_53 rfl (lv_at hl 3 rfl) ?_
          refine lv_iload_n hx hb dX10_isMore_54 rfl (lv_at hl 2 rfl) ?_
          refine lv_isub hx hb dX10_isMore_55 ?_
          refine lv_topi (fun x21 ex21 => ?_)
          refine lv_aload_n hx hb dX10_isMore_56 rfl (lv_at hl 1 rfl) ?_
          refine va_get (D := D) (ci := 10) (v := .int j_shiftLow) (C := RX10) (T := TX10) (N := 25) hx hb hts (fun _ h => List.mem_cons_of_mem _ (List.mem_append_right _ h)) hown hK hP 0 rfl rfl 23 (by decide) (hts (.fieldLink RX10 273 "LineCitesModel" "shiftLow" "I") (List.mem_of_getElem? (i := 3) rfl)) (fun _ h9 => h9) rfl dX10_isMore_57 ?_
          refine lv_icmp_le (tgt := 69) hx hb dX10_isMore_60 (by decide) (fun c22 => ?_) (fun c22 => ?_)
          · have nc22 : x21.toInt ≤ j_shiftLow.toInt := pw_le c22 rfl rfl
            have mc22x21 := pw_max x21
            have mc22j_shiftLow := pw_max j_shiftLow
            refine lv_aload_n hx hb dX10_isMore_69 rfl (lv_at hl 1 rfl) ?_
            refine va_get (D := D) (ci := 10) (v := .int j_shiftLow) (C := RX10) (T := TX10) (N := 25) hx hb hts (fun _ h => List.mem_cons_of_mem _ (List.mem_append_right _ h)) hown hK hP 0 rfl rfl 23 (by decide) (hts (.fieldLink RX10 273 "LineCitesModel" "shiftLow" "I") (List.mem_of_getElem? (i := 3) rfl)) (fun _ h9 => h9) rfl dX10_isMore_70 ?_
            refine va_put (D := D) (ci := 10) (v := .int j_shiftLow) (ty := .int) (C := RX10) (T := TX10) (N := 25) hx hb hts (fun _ h => List.mem_cons_of_mem _ (List.mem_append_right _ h)) tyX10 tyX10_ok nmX10 hown hK hP hD hS 0 rfl rfl 23 (by decide) (hts (.fieldLink RX10 273 "LineCitesModel" "shiftLow" "I") (List.mem_of_getElem? (i := 3) rfl)) (fun _ h9 => h9) rfl (by decide +kernel) rfl rfl (Nat.le_of_ble_eq_true rfl) dX10_isMore_73 (fun H locs hP hD hS => ?_)
            have hP : va_P D vwCl [(h0, .inr (10, [.ref m_now, .ref m_draft, .ref m_past, .int j_acts, .ref m_images, .ref m_kept, .ref m_tape, .int j_taped, .int j_at, .int j_start, .int j_token, .int j_value, .int j_fault, .int j_place, .int j_latest, .ref m_low, .ref m_high, .ref m_first, .ref m_second, .ref m_lines, .ref m_others, .int j_shiftFirst, .int j_shiftMany, .int j_shiftLow, .int j_shiftHigh]))] H := hP
            have hD : va_D A [(h0, .inr (10, [.ref m_now, .ref m_draft, .ref m_past, .int j_acts, .ref m_images, .ref m_kept, .ref m_tape, .int j_taped, .int j_at, .int j_start, .int j_token, .int j_value, .int j_fault, .int j_place, .int j_latest, .ref m_low, .ref m_high, .ref m_first, .ref m_second, .ref m_lines, .ref m_others, .int j_shiftFirst, .int j_shiftMany, .int j_shiftLow, .int j_shiftHigh]))] := hD
            have hK : va_K D vwCl [] s := hK
            refine lv_aload_n hx hb dX10_isMore_76 rfl (lv_at hl 1 rfl) ?_
            refine lv_iload_n hx hb dX10_isMore_77 rfl (lv_at hl 4 rfl) ?_
            refine lv_iload_n hx hb dX10_isMore_78 rfl (lv_at hl 2 rfl) ?_
            refine lv_isub hx hb dX10_isMore_79 ?_
            refine lv_topi (fun x23 ex23 => ?_)
            refine lv_aload_n hx hb dX10_isMore_80 rfl (lv_at hl 1 rfl) ?_
            refine va_get (D := D) (ci := 10) (v := .int j_shiftHigh) (C := RX10) (T := TX10) (N := 25) hx hb hts (fun _ h => List.mem_cons_of_mem _ (List.mem_append_right _ h)) hown hK hP 0 rfl rfl 24 (by decide) (hts (.fieldLink RX10 270 "LineCitesModel" "shiftHigh" "I") (List.mem_of_getElem? (i := 4) rfl)) (fun _ h9 => h9) rfl dX10_isMore_81 ?_
            refine lv_icmp_ge (tgt := 93) hx hb dX10_isMore_84 (by decide) (fun c24 => ?_) (fun c24 => ?_)
            · have nc24 : j_shiftHigh.toInt ≤ x23.toInt := pw_le c24 rfl rfl
              have mc24x23 := pw_max x23
              have mc24j_shiftHigh := pw_max j_shiftHigh
              refine lv_aload_n hx hb dX10_isMore_93 rfl (lv_at hl 1 rfl) ?_
              refine va_get (D := D) (ci := 10) (v := .int j_shiftHigh) (C := RX10) (T := TX10) (N := 25) hx hb hts (fun _ h => List.mem_cons_of_mem _ (List.mem_append_right _ h)) hown hK hP 0 rfl rfl 24 (by decide) (hts (.fieldLink RX10 270 "LineCitesModel" "shiftHigh" "I") (List.mem_of_getElem? (i := 4) rfl)) (fun _ h9 => h9) rfl dX10_isMore_94 ?_
              refine va_put (D := D) (ci := 10) (v := .int j_shiftHigh) (ty := .int) (C := RX10) (T := TX10) (N := 25) hx hb hts (fun _ h => List.mem_cons_of_mem _ (List.mem_append_right _ h)) tyX10 tyX10_ok nmX10 hown hK hP hD hS 0 rfl rfl 24 (by decide) (hts (.fieldLink RX10 270 "LineCitesModel" "shiftHigh" "I") (List.mem_of_getElem? (i := 4) rfl)) (fun _ h9 => h9) rfl (by decide +kernel) rfl rfl (Nat.le_of_ble_eq_true rfl) dX10_isMore_97 (fun H locs hP hD hS => ?_)
              have hP : va_P D vwCl [(h0, .inr (10, [.ref m_now, .ref m_draft, .ref m_past, .int j_acts, .ref m_images, .ref m_kept, .ref m_tape, .int j_taped, .int j_at, .int j_start, .int j_token, .int j_value, .int j_fault, .int j_place, .int j_latest, .ref m_low, .ref m_high, .ref m_first, .ref m_second, .ref m_lines, .ref m_others, .int j_shiftFirst, .int j_shiftMany, .int j_shiftLow, .int j_shiftHigh]))] H := hP
              have hD : va_D A [(h0, .inr (10, [.ref m_now, .ref m_draft, .ref m_past, .int j_acts, .ref m_images, .ref m_kept, .ref m_tape, .int j_taped, .int j_at, .int j_start, .int j_token, .int j_value, .int j_fault, .int j_place, .int j_latest, .ref m_low, .ref m_high, .ref m_first, .ref m_second, .ref m_lines, .ref m_others, .int j_shiftFirst, .int j_shiftMany, .int j_shiftLow, .int j_shiftHigh]))] := hD
              have hK : va_K D vwCl [] s := hK
              refine lv_aload_n hx hb dX10_isMore_100 rfl (lv_at hl 1 rfl) ?_
              refine lv_dup hx hb dX10_isMore_101 rfl ?_
              refine va_get (D := D) (ci := 10) (v := .int j_shiftMany) (C := RX10) (T := TX10) (N := 25) hx hb hts (fun _ h => List.mem_cons_of_mem _ (List.mem_append_right _ h)) hown hK hP 0 rfl rfl 22 (by decide) (hts (.fieldLink RX10 264 "LineCitesModel" "shiftMany" "I") (List.mem_of_getElem? (i := 1) rfl)) (fun _ h9 => h9) rfl dX10_isMore_102 ?_
              refine lv_iconst (v := 1) hx hb dX10_isMore_105 (by decide) ?_
              refine lv_iadd hx hb dX10_isMore_106 ?_
              refine lv_topi (fun x25 ex25 => ?_)
              refine va_put (D := D) (ci := 10) (v := .int x25) (ty := .int) (C := RX10) (T := TX10) (N := 25) hx hb hts (fun _ h => List.mem_cons_of_mem _ (List.mem_append_right _ h)) tyX10 tyX10_ok nmX10 hown hK hP hD hS 0 rfl rfl 22 (by decide) (hts (.fieldLink RX10 264 "LineCitesModel" "shiftMany" "I") (List.mem_of_getElem? (i := 1) rfl)) (fun _ h9 => h9) rfl (by decide +kernel) rfl rfl (Nat.le_of_ble_eq_true rfl) dX10_isMore_107 (fun H locs hP hD hS => ?_)
              have hP : va_P D vwCl [(h0, .inr (10, [.ref m_now, .ref m_draft, .ref m_past, .int j_acts, .ref m_images, .ref m_kept, .ref m_tape, .int j_taped, .int j_at, .int j_start, .int j_token, .int j_value, .int j_fault, .int j_place, .int j_latest, .ref m_low, .ref m_high, .ref m_first, .ref m_second, .ref m_lines, .ref m_others, .int j_shiftFirst, .int x25, .int j_shiftLow, .int j_shiftHigh]))] H := hP
              have hD : va_D A [(h0, .inr (10, [.ref m_now, .ref m_draft, .ref m_past, .int j_acts, .ref m_images, .ref m_kept, .ref m_tape, .int j_taped, .int j_at, .int j_start, .int j_token, .int j_value, .int j_fault, .int j_place, .int j_latest, .ref m_low, .ref m_high, .ref m_first, .ref m_second, .ref m_lines, .ref m_others, .int j_shiftFirst, .int x25, .int j_shiftLow, .int j_shiftHigh]))] := hD
              have hK : va_K D vwCl [] s := hK
              refine lv_goto (tgt := 137) hx hb dX10_isMore_110 (by decide) ?_
              refine lv_iload hx hb dX10_isMore_137 (lv_at hl 0 rfl) ?_
              have hP9 := hP.sub (ws' := [(h0, .inr (10, [.ref m_now, .ref m_draft, .ref m_past, .int j_acts, .ref m_images, .ref m_kept, .ref m_tape, .int j_taped, .int j_at, .int j_start, .int j_token, .int j_value, .int j_fault, .int j_place, .int j_latest, .ref m_low, .ref m_high, .ref m_first, .ref m_second, .ref m_lines, .ref m_others, .int j_shiftFirst, .int x25, .int j_shiftLow, .int j_shiftHigh]))]) [0] rfl
              have hD9 := hD.sub (ws' := [(h0, .inr (10, [.ref m_now, .ref m_draft, .ref m_past, .int j_acts, .ref m_images, .ref m_kept, .ref m_tape, .int j_taped, .int j_at, .int j_start, .int j_token, .int j_value, .int j_fault, .int j_place, .int j_latest, .ref m_low, .ref m_high, .ref m_first, .ref m_second, .ref m_lines, .ref m_others, .int j_shiftFirst, .int x25, .int j_shiftLow, .int j_shiftHigh]))]) [0] (by decide) rfl
              have hK9 := hK.sub (tys' := []) [] rfl
              refine W.widen (k := 0) (n := 0) (Nat.le_of_ble_eq_true rfl) (Nat.le_of_ble_eq_true rfl) ?_
              exact W.zret (v := 1) (ty := .boolean) hx hb hr rfl (fun t ht hW => ⟨⟨1, (), rfl, ⟨Or.inr rfl, trivial⟩, j_shiftFirst, x25, j_shiftLow, j_shiftHigh, by rw [ht]; exact hP9, va_K.moved hW.alike hK9, hD9⟩, hS.F ht⟩) hS.2.2 dX10_isMore_139
            · have nc24 : x23.toInt < j_shiftHigh.toInt := pw_nle c24 rfl rfl
              have mc24x23 := pw_max x23
              have mc24j_shiftHigh := pw_max j_shiftHigh
              refine lv_iload_n hx hb dX10_isMore_87 rfl (lv_at hl 4 rfl) ?_
              refine lv_iload_n hx hb dX10_isMore_88 rfl (lv_at hl 2 rfl) ?_
              refine lv_isub hx hb dX10_isMore_89 ?_
              refine lv_topi (fun x26 ex26 => ?_)
              refine lv_goto (tgt := 97) hx hb dX10_isMore_90 (by decide) ?_
              refine va_put (D := D) (ci := 10) (v := .int x26) (ty := .int) (C := RX10) (T := TX10) (N := 25) hx hb hts (fun _ h => List.mem_cons_of_mem _ (List.mem_append_right _ h)) tyX10 tyX10_ok nmX10 hown hK hP hD hS 0 rfl rfl 24 (by decide) (hts (.fieldLink RX10 270 "LineCitesModel" "shiftHigh" "I") (List.mem_of_getElem? (i := 4) rfl)) (fun _ h9 => h9) rfl (by decide +kernel) rfl rfl (Nat.le_of_ble_eq_true rfl) dX10_isMore_97 (fun H locs hP hD hS => ?_)
              have hP : va_P D vwCl [(h0, .inr (10, [.ref m_now, .ref m_draft, .ref m_past, .int j_acts, .ref m_images, .ref m_kept, .ref m_tape, .int j_taped, .int j_at, .int j_start, .int j_token, .int j_value, .int j_fault, .int j_place, .int j_latest, .ref m_low, .ref m_high, .ref m_first, .ref m_second, .ref m_lines, .ref m_others, .int j_shiftFirst, .int j_shiftMany, .int j_shiftLow, .int x26]))] H := hP
              have hD : va_D A [(h0, .inr (10, [.ref m_now, .ref m_draft, .ref m_past, .int j_acts, .ref m_images, .ref m_kept, .ref m_tape, .int j_taped, .int j_at, .int j_start, .int j_token, .int j_value, .int j_fault, .int j_place, .int j_latest, .ref m_low, .ref m_high, .ref m_first, .ref m_second, .ref m_lines, .ref m_others, .int j_shiftFirst, .int j_shiftMany, .int j_shiftLow, .int x26]))] := hD
              have hK : va_K D vwCl [] s := hK
              refine lv_aload_n hx hb dX10_isMore_100 rfl (lv_at hl 1 rfl) ?_
              refine lv_dup hx hb dX10_isMore_101 rfl ?_
              refine va_get (D := D) (ci := 10) (v := .int j_shiftMany) (C := RX10) (T := TX10) (N := 25) hx hb hts (fun _ h => List.mem_cons_of_mem _ (List.mem_append_right _ h)) hown hK hP 0 rfl rfl 22 (by decide) (hts (.fieldLink RX10 264 "LineCitesModel" "shiftMany" "I") (List.mem_of_getElem? (i := 1) rfl)) (fun _ h9 => h9) rfl dX10_isMore_102 ?_
              refine lv_iconst (v := 1) hx hb dX10_isMore_105 (by decide) ?_
              refine lv_iadd hx hb dX10_isMore_106 ?_
              refine lv_topi (fun x27 ex27 => ?_)
              refine va_put (D := D) (ci := 10) (v := .int x27) (ty := .int) (C := RX10) (T := TX10) (N := 25) hx hb hts (fun _ h => List.mem_cons_of_mem _ (List.mem_append_right _ h)) tyX10 tyX10_ok nmX10 hown hK hP hD hS 0 rfl rfl 22 (by decide) (hts (.fieldLink RX10 264 "LineCitesModel" "shiftMany" "I") (List.mem_of_getElem? (i := 1) rfl)) (fun _ h9 => h9) rfl (by decide +kernel) rfl rfl (Nat.le_of_ble_eq_true rfl) dX10_isMore_107 (fun H locs hP hD hS => ?_)
              have hP : va_P D vwCl [(h0, .inr (10, [.ref m_now, .ref m_draft, .ref m_past, .int j_acts, .ref m_images, .ref m_kept, .ref m_tape, .int j_taped, .int j_at, .int j_start, .int j_token, .int j_value, .int j_fault, .int j_place, .int j_latest, .ref m_low, .ref m_high, .ref m_first, .ref m_second, .ref m_lines, .ref m_others, .int j_shiftFirst, .int x27, .int j_shiftLow, .int x26]))] H := hP
              have hD : va_D A [(h0, .inr (10, [.ref m_now, .ref m_draft, .ref m_past, .int j_acts, .ref m_images, .ref m_kept, .ref m_tape, .int j_taped, .int j_at, .int j_start, .int j_token, .int j_value, .int j_fault, .int j_place, .int j_latest, .ref m_low, .ref m_high, .ref m_first, .ref m_second, .ref m_lines, .ref m_others, .int j_shiftFirst, .int x27, .int j_shiftLow, .int x26]))] := hD
              have hK : va_K D vwCl [] s := hK
              refine lv_goto (tgt := 137) hx hb dX10_isMore_110 (by decide) ?_
              refine lv_iload hx hb dX10_isMore_137 (lv_at hl 0 rfl) ?_
              have hP9 := hP.sub (ws' := [(h0, .inr (10, [.ref m_now, .ref m_draft, .ref m_past, .int j_acts, .ref m_images, .ref m_kept, .ref m_tape, .int j_taped, .int j_at, .int j_start, .int j_token, .int j_value, .int j_fault, .int j_place, .int j_latest, .ref m_low, .ref m_high, .ref m_first, .ref m_second, .ref m_lines, .ref m_others, .int j_shiftFirst, .int x27, .int j_shiftLow, .int x26]))]) [0] rfl
              have hD9 := hD.sub (ws' := [(h0, .inr (10, [.ref m_now, .ref m_draft, .ref m_past, .int j_acts, .ref m_images, .ref m_kept, .ref m_tape, .int j_taped, .int j_at, .int j_start, .int j_token, .int j_value, .int j_fault, .int j_place, .int j_latest, .ref m_low, .ref m_high, .ref m_first, .ref m_second, .ref m_lines, .ref m_others, .int j_shiftFirst, .int x27, .int j_shiftLow, .int x26]))]) [0] (by decide) rfl
              have hK9 := hK.sub (tys' := []) [] rfl
              refine W.widen (k := 0) (n := 0) (Nat.le_of_ble_eq_true rfl) (Nat.le_of_ble_eq_true rfl) ?_
              exact W.zret (v := 1) (ty := .boolean) hx hb hr rfl (fun t ht hW => ⟨⟨1, (), rfl, ⟨Or.inr rfl, trivial⟩, j_shiftFirst, x27, j_shiftLow, x26, by rw [ht]; exact hP9, va_K.moved hW.alike hK9, hD9⟩, hS.F ht⟩) hS.2.2 dX10_isMore_139
          · have nc22 : j_shiftLow.toInt < x21.toInt := pw_nle c22 rfl rfl
            have mc22x21 := pw_max x21
            have mc22j_shiftLow := pw_max j_shiftLow
            refine lv_iload_n hx hb dX10_isMore_63 rfl (lv_at hl 3 rfl) ?_
            refine lv_iload_n hx hb dX10_isMore_64 rfl (lv_at hl 2 rfl) ?_
            refine lv_isub hx hb dX10_isMore_65 ?_
            refine lv_topi (fun x28 ex28 => ?_)
            refine lv_goto (tgt := 73) hx hb dX10_isMore_66 (by decide) ?_
            refine va_put (D := D) (ci := 10) (v := .int x28) (ty := .int) (C := RX10) (T := TX10) (N := 25) hx hb hts (fun _ h => List.mem_cons_of_mem _ (List.mem_append_right _ h)) tyX10 tyX10_ok nmX10 hown hK hP hD hS 0 rfl rfl 23 (by decide) (hts (.fieldLink RX10 273 "LineCitesModel" "shiftLow" "I") (List.mem_of_getElem? (i := 3) rfl)) (fun _ h9 => h9) rfl (by decide +kernel) rfl rfl (Nat.le_of_ble_eq_true rfl) dX10_isMore_73 (fun H locs hP hD hS => ?_)
            have hP : va_P D vwCl [(h0, .inr (10, [.ref m_now, .ref m_draft, .ref m_past, .int j_acts, .ref m_images, .ref m_kept, .ref m_tape, .int j_taped, .int j_at, .int j_start, .int j_token, .int j_value, .int j_fault, .int j_place, .int j_latest, .ref m_low, .ref m_high, .ref m_first, .ref m_second, .ref m_lines, .ref m_others, .int j_shiftFirst, .int j_shiftMany, .int x28, .int j_shiftHigh]))] H := hP
            have hD : va_D A [(h0, .inr (10, [.ref m_now, .ref m_draft, .ref m_past, .int j_acts, .ref m_images, .ref m_kept, .ref m_tape, .int j_taped, .int j_at, .int j_start, .int j_token, .int j_value, .int j_fault, .int j_place, .int j_latest, .ref m_low, .ref m_high, .ref m_first, .ref m_second, .ref m_lines, .ref m_others, .int j_shiftFirst, .int j_shiftMany, .int x28, .int j_shiftHigh]))] := hD
            have hK : va_K D vwCl [] s := hK
            refine lv_aload_n hx hb dX10_isMore_76 rfl (lv_at hl 1 rfl) ?_
            refine lv_iload_n hx hb dX10_isMore_77 rfl (lv_at hl 4 rfl) ?_
            refine lv_iload_n hx hb dX10_isMore_78 rfl (lv_at hl 2 rfl) ?_
            refine lv_isub hx hb dX10_isMore_79 ?_
            refine lv_topi (fun x29 ex29 => ?_)
            refine lv_aload_n hx hb dX10_isMore_80 rfl (lv_at hl 1 rfl) ?_
            refine va_get (D := D) (ci := 10) (v := .int j_shiftHigh) (C := RX10) (T := TX10) (N := 25) hx hb hts (fun _ h => List.mem_cons_of_mem _ (List.mem_append_right _ h)) hown hK hP 0 rfl rfl 24 (by decide) (hts (.fieldLink RX10 270 "LineCitesModel" "shiftHigh" "I") (List.mem_of_getElem? (i := 4) rfl)) (fun _ h9 => h9) rfl dX10_isMore_81 ?_
            refine lv_icmp_ge (tgt := 93) hx hb dX10_isMore_84 (by decide) (fun c30 => ?_) (fun c30 => ?_)
            · have nc30 : j_shiftHigh.toInt ≤ x29.toInt := pw_le c30 rfl rfl
              have mc30x29 := pw_max x29
              have mc30j_shiftHigh := pw_max j_shiftHigh
              refine lv_aload_n hx hb dX10_isMore_93 rfl (lv_at hl 1 rfl) ?_
              refine va_get (D := D) (ci := 10) (v := .int j_shiftHigh) (C := RX10) (T := TX10) (N := 25) hx hb hts (fun _ h => List.mem_cons_of_mem _ (List.mem_append_right _ h)) hown hK hP 0 rfl rfl 24 (by decide) (hts (.fieldLink RX10 270 "LineCitesModel" "shiftHigh" "I") (List.mem_of_getElem? (i := 4) rfl)) (fun _ h9 => h9) rfl dX10_isMore_94 ?_
              refine va_put (D := D) (ci := 10) (v := .int j_shiftHigh) (ty := .int) (C := RX10) (T := TX10) (N := 25) hx hb hts (fun _ h => List.mem_cons_of_mem _ (List.mem_append_right _ h)) tyX10 tyX10_ok nmX10 hown hK hP hD hS 0 rfl rfl 24 (by decide) (hts (.fieldLink RX10 270 "LineCitesModel" "shiftHigh" "I") (List.mem_of_getElem? (i := 4) rfl)) (fun _ h9 => h9) rfl (by decide +kernel) rfl rfl (Nat.le_of_ble_eq_true rfl) dX10_isMore_97 (fun H locs hP hD hS => ?_)
              have hP : va_P D vwCl [(h0, .inr (10, [.ref m_now, .ref m_draft, .ref m_past, .int j_acts, .ref m_images, .ref m_kept, .ref m_tape, .int j_taped, .int j_at, .int j_start, .int j_token, .int j_value, .int j_fault, .int j_place, .int j_latest, .ref m_low, .ref m_high, .ref m_first, .ref m_second, .ref m_lines, .ref m_others, .int j_shiftFirst, .int j_shiftMany, .int x28, .int j_shiftHigh]))] H := hP
              have hD : va_D A [(h0, .inr (10, [.ref m_now, .ref m_draft, .ref m_past, .int j_acts, .ref m_images, .ref m_kept, .ref m_tape, .int j_taped, .int j_at, .int j_start, .int j_token, .int j_value, .int j_fault, .int j_place, .int j_latest, .ref m_low, .ref m_high, .ref m_first, .ref m_second, .ref m_lines, .ref m_others, .int j_shiftFirst, .int j_shiftMany, .int x28, .int j_shiftHigh]))] := hD
              have hK : va_K D vwCl [] s := hK
              refine lv_aload_n hx hb dX10_isMore_100 rfl (lv_at hl 1 rfl) ?_
              refine lv_dup hx hb dX10_isMore_101 rfl ?_
              refine va_get (D := D) (ci := 10) (v := .int j_shiftMany) (C := RX10) (T := TX10) (N := 25) hx hb hts (fun _ h => List.mem_cons_of_mem _ (List.mem_append_right _ h)) hown hK hP 0 rfl rfl 22 (by decide) (hts (.fieldLink RX10 264 "LineCitesModel" "shiftMany" "I") (List.mem_of_getElem? (i := 1) rfl)) (fun _ h9 => h9) rfl dX10_isMore_102 ?_
              refine lv_iconst (v := 1) hx hb dX10_isMore_105 (by decide) ?_
              refine lv_iadd hx hb dX10_isMore_106 ?_
              refine lv_topi (fun x31 ex31 => ?_)
              refine va_put (D := D) (ci := 10) (v := .int x31) (ty := .int) (C := RX10) (T := TX10) (N := 25) hx hb hts (fun _ h => List.mem_cons_of_mem _ (List.mem_append_right _ h)) tyX10 tyX10_ok nmX10 hown hK hP hD hS 0 rfl rfl 22 (by decide) (hts (.fieldLink RX10 264 "LineCitesModel" "shiftMany" "I") (List.mem_of_getElem? (i := 1) rfl)) (fun _ h9 => h9) rfl (by decide +kernel) rfl rfl (Nat.le_of_ble_eq_true rfl) dX10_isMore_107 (fun H locs hP hD hS => ?_)
              have hP : va_P D vwCl [(h0, .inr (10, [.ref m_now, .ref m_draft, .ref m_past, .int j_acts, .ref m_images, .ref m_kept, .ref m_tape, .int j_taped, .int j_at, .int j_start, .int j_token, .int j_value, .int j_fault, .int j_place, .int j_latest, .ref m_low, .ref m_high, .ref m_first, .ref m_second, .ref m_lines, .ref m_others, .int j_shiftFirst, .int x31, .int x28, .int j_shiftHigh]))] H := hP
              have hD : va_D A [(h0, .inr (10, [.ref m_now, .ref m_draft, .ref m_past, .int j_acts, .ref m_images, .ref m_kept, .ref m_tape, .int j_taped, .int j_at, .int j_start, .int j_token, .int j_value, .int j_fault, .int j_place, .int j_latest, .ref m_low, .ref m_high, .ref m_first, .ref m_second, .ref m_lines, .ref m_others, .int j_shiftFirst, .int x31, .int x28, .int j_shiftHigh]))] := hD
              have hK : va_K D vwCl [] s := hK
              refine lv_goto (tgt := 137) hx hb dX10_isMore_110 (by decide) ?_
              refine lv_iload hx hb dX10_isMore_137 (lv_at hl 0 rfl) ?_
              have hP9 := hP.sub (ws' := [(h0, .inr (10, [.ref m_now, .ref m_draft, .ref m_past, .int j_acts, .ref m_images, .ref m_kept, .ref m_tape, .int j_taped, .int j_at, .int j_start, .int j_token, .int j_value, .int j_fault, .int j_place, .int j_latest, .ref m_low, .ref m_high, .ref m_first, .ref m_second, .ref m_lines, .ref m_others, .int j_shiftFirst, .int x31, .int x28, .int j_shiftHigh]))]) [0] rfl
              have hD9 := hD.sub (ws' := [(h0, .inr (10, [.ref m_now, .ref m_draft, .ref m_past, .int j_acts, .ref m_images, .ref m_kept, .ref m_tape, .int j_taped, .int j_at, .int j_start, .int j_token, .int j_value, .int j_fault, .int j_place, .int j_latest, .ref m_low, .ref m_high, .ref m_first, .ref m_second, .ref m_lines, .ref m_others, .int j_shiftFirst, .int x31, .int x28, .int j_shiftHigh]))]) [0] (by decide) rfl
              have hK9 := hK.sub (tys' := []) [] rfl
              refine W.widen (k := 0) (n := 0) (Nat.le_of_ble_eq_true rfl) (Nat.le_of_ble_eq_true rfl) ?_
              exact W.zret (v := 1) (ty := .boolean) hx hb hr rfl (fun t ht hW => ⟨⟨1, (), rfl, ⟨Or.inr rfl, trivial⟩, j_shiftFirst, x31, x28, j_shiftHigh, by rw [ht]; exact hP9, va_K.moved hW.alike hK9, hD9⟩, hS.F ht⟩) hS.2.2 dX10_isMore_139
            · have nc30 : x29.toInt < j_shiftHigh.toInt := pw_nle c30 rfl rfl
              have mc30x29 := pw_max x29
              have mc30j_shiftHigh := pw_max j_shiftHigh
              refine lv_iload_n hx hb dX10_isMore_87 rfl (lv_at hl 4 rfl) ?_
              refine lv_iload_n hx hb dX10_isMore_88 rfl (lv_at hl 2 rfl) ?_
              refine lv_isub hx hb dX10_isMore_89 ?_
              refine lv_topi (fun x32 ex32 => ?_)
              refine lv_goto (tgt := 97) hx hb dX10_isMore_90 (by decide) ?_
              refine va_put (D := D) (ci := 10) (v := .int x32) (ty := .int) (C := RX10) (T := TX10) (N := 25) hx hb hts (fun _ h => List.mem_cons_of_mem _ (List.mem_append_right _ h)) tyX10 tyX10_ok nmX10 hown hK hP hD hS 0 rfl rfl 24 (by decide) (hts (.fieldLink RX10 270 "LineCitesModel" "shiftHigh" "I") (List.mem_of_getElem? (i := 4) rfl)) (fun _ h9 => h9) rfl (by decide +kernel) rfl rfl (Nat.le_of_ble_eq_true rfl) dX10_isMore_97 (fun H locs hP hD hS => ?_)
              have hP : va_P D vwCl [(h0, .inr (10, [.ref m_now, .ref m_draft, .ref m_past, .int j_acts, .ref m_images, .ref m_kept, .ref m_tape, .int j_taped, .int j_at, .int j_start, .int j_token, .int j_value, .int j_fault, .int j_place, .int j_latest, .ref m_low, .ref m_high, .ref m_first, .ref m_second, .ref m_lines, .ref m_others, .int j_shiftFirst, .int j_shiftMany, .int x28, .int x32]))] H := hP
              have hD : va_D A [(h0, .inr (10, [.ref m_now, .ref m_draft, .ref m_past, .int j_acts, .ref m_images, .ref m_kept, .ref m_tape, .int j_taped, .int j_at, .int j_start, .int j_token, .int j_value, .int j_fault, .int j_place, .int j_latest, .ref m_low, .ref m_high, .ref m_first, .ref m_second, .ref m_lines, .ref m_others, .int j_shiftFirst, .int j_shiftMany, .int x28, .int x32]))] := hD
              have hK : va_K D vwCl [] s := hK
              refine lv_aload_n hx hb dX10_isMore_100 rfl (lv_at hl 1 rfl) ?_
              refine lv_dup hx hb dX10_isMore_101 rfl ?_
              refine va_get (D := D) (ci := 10) (v := .int j_shiftMany) (C := RX10) (T := TX10) (N := 25) hx hb hts (fun _ h => List.mem_cons_of_mem _ (List.mem_append_right _ h)) hown hK hP 0 rfl rfl 22 (by decide) (hts (.fieldLink RX10 264 "LineCitesModel" "shiftMany" "I") (List.mem_of_getElem? (i := 1) rfl)) (fun _ h9 => h9) rfl dX10_isMore_102 ?_
              refine lv_iconst (v := 1) hx hb dX10_isMore_105 (by decide) ?_
              refine lv_iadd hx hb dX10_isMore_106 ?_
              refine lv_topi (fun x33 ex33 => ?_)
              refine va_put (D := D) (ci := 10) (v := .int x33) (ty := .int) (C := RX10) (T := TX10) (N := 25) hx hb hts (fun _ h => List.mem_cons_of_mem _ (List.mem_append_right _ h)) tyX10 tyX10_ok nmX10 hown hK hP hD hS 0 rfl rfl 22 (by decide) (hts (.fieldLink RX10 264 "LineCitesModel" "shiftMany" "I") (List.mem_of_getElem? (i := 1) rfl)) (fun _ h9 => h9) rfl (by decide +kernel) rfl rfl (Nat.le_of_ble_eq_true rfl) dX10_isMore_107 (fun H locs hP hD hS => ?_)
              have hP : va_P D vwCl [(h0, .inr (10, [.ref m_now, .ref m_draft, .ref m_past, .int j_acts, .ref m_images, .ref m_kept, .ref m_tape, .int j_taped, .int j_at, .int j_start, .int j_token, .int j_value, .int j_fault, .int j_place, .int j_latest, .ref m_low, .ref m_high, .ref m_first, .ref m_second, .ref m_lines, .ref m_others, .int j_shiftFirst, .int x33, .int x28, .int x32]))] H := hP
              have hD : va_D A [(h0, .inr (10, [.ref m_now, .ref m_draft, .ref m_past, .int j_acts, .ref m_images, .ref m_kept, .ref m_tape, .int j_taped, .int j_at, .int j_start, .int j_token, .int j_value, .int j_fault, .int j_place, .int j_latest, .ref m_low, .ref m_high, .ref m_first, .ref m_second, .ref m_lines, .ref m_others, .int j_shiftFirst, .int x33, .int x28, .int x32]))] := hD
              have hK : va_K D vwCl [] s := hK
              refine lv_goto (tgt := 137) hx hb dX10_isMore_110 (by decide) ?_
              refine lv_iload hx hb dX10_isMore_137 (lv_at hl 0 rfl) ?_
              have hP9 := hP.sub (ws' := [(h0, .inr (10, [.ref m_now, .ref m_draft, .ref m_past, .int j_acts, .ref m_images, .ref m_kept, .ref m_tape, .int j_taped, .int j_at, .int j_start, .int j_token, .int j_value, .int j_fault, .int j_place, .int j_latest, .ref m_low, .ref m_high, .ref m_first, .ref m_second, .ref m_lines, .ref m_others, .int j_shiftFirst, .int x33, .int x28, .int x32]))]) [0] rfl
              have hD9 := hD.sub (ws' := [(h0, .inr (10, [.ref m_now, .ref m_draft, .ref m_past, .int j_acts, .ref m_images, .ref m_kept, .ref m_tape, .int j_taped, .int j_at, .int j_start, .int j_token, .int j_value, .int j_fault, .int j_place, .int j_latest, .ref m_low, .ref m_high, .ref m_first, .ref m_second, .ref m_lines, .ref m_others, .int j_shiftFirst, .int x33, .int x28, .int x32]))]) [0] (by decide) rfl
              have hK9 := hK.sub (tys' := []) [] rfl
              refine W.widen (k := 0) (n := 0) (Nat.le_of_ble_eq_true rfl) (Nat.le_of_ble_eq_true rfl) ?_
              exact W.zret (v := 1) (ty := .boolean) hx hb hr rfl (fun t ht hW => ⟨⟨1, (), rfl, ⟨Or.inr rfl, trivial⟩, j_shiftFirst, x33, x28, x32, by rw [ht]; exact hP9, va_K.moved hW.alike hK9, hD9⟩, hS.F ht⟩) hS.2.2 dX10_isMore_139
def w_X10_toldShift : List Cond := .code yX10_toldShift cX10_toldShift 3 (some .int) :: ([.fieldLink RX10 273 "LineCitesModel" "shiftLow" "I", .fieldLink RX10 270 "LineCitesModel" "shiftHigh" "I", .fieldLink RX10 264 "LineCitesModel" "shiftMany" "I", .fieldLink RX10 267 "LineCitesModel" "shiftFirst" "I"] ++ wsX100)
set_option maxHeartbeats 4000000 in
set_option maxRecDepth 100000 in
theorem c_X10_toldShift (l : Launch) (D : va_G) (h0 : Nat) (i_w : Int32) (m_now : Nat) (m_draft : Nat) (m_past : Nat) (j_acts : Int32) (m_images : Nat) (m_kept : Nat) (m_tape : Nat) (j_taped : Int32) (j_at : Int32) (j_start : Int32) (j_token : Int32) (j_value : Int32) (j_fault : Int32) (j_place : Int32) (j_latest : Int32) (m_low : Nat) (m_high : Nat) (m_first : Nat) (m_second : Nat) (m_lines : Nat) (m_others : Nat) (j_shiftFirst : Int32) (j_shiftMany : Int32) (j_shiftLow : Int32) (j_shiftHigh : Int32) : Met l yX10_toldShift w_X10_toldShift ({ frames := 0, cells := 0, slots := 0, locals := 0 }) (va_Pc [.ref h0, .int i_w] (fun U => va_P D vwCl [(h0, .inr (10, [.ref m_now, .ref m_draft, .ref m_past, .int j_acts, .ref m_images, .ref m_kept, .ref m_tape, .int j_taped, .int j_at, .int j_start, .int j_token, .int j_value, .int j_fault, .int j_place, .int j_latest, .ref m_low, .ref m_high, .ref m_first, .ref m_second, .ref m_lines, .ref m_others, .int j_shiftFirst, .int j_shiftMany, .int j_shiftLow, .int j_shiftHigh]))] U.heap ∧ va_K D vwCl [] U)) (va_Qi (fun (r : Int32) (_ : Unit) => True) (fun _ _ => True) (fun _ => False)) 0 0 (fun _ => False) := by
  refine Met.ofW (cc := cX10_toldShift) (maxL := 3) (ret := (some .int)) (by decide) rfl ?_
  intro p e s m args below meth c s₁ B hml hv
  obtain ⟨rfl, hP, hK⟩ := hv
  have hx := B.exec
  have hb := B.bytes
  have hr := B.returns
  have hts := atoms_spec (ws := w_X10_toldShift) B.pre
  have hown : s.vm.findClass RX10 = some m.cls := findClass_of_methodNamed B.named
  have hlocks := B.notSynchronized
  have hS : va_S (fun _ : Nat => False) s.heap s.heap [] := va_S.rf
  have hP : va_P D vwCl [(h0, .inr (10, [.ref m_now, .ref m_draft, .ref m_past, .int j_acts, .ref m_images, .ref m_kept, .ref m_tape, .int j_taped, .int j_at, .int j_start, .int j_token, .int j_value, .int j_fault, .int j_place, .int j_latest, .ref m_low, .ref m_high, .ref m_first, .ref m_second, .ref m_lines, .ref m_others, .int j_shiftFirst, .int j_shiftMany, .int j_shiftLow, .int j_shiftHigh]))] s.heap := hP
  have hl := lv_entry ([.ref h0, .int i_w]) (n := 3) (Nat.le_of_ble_eq_true rfl)
  rw [lg_entry_eq]
  generalize (lg_sl ([.ref h0, .int i_w]) ++ List.replicate (3 - (lg_sl ([.ref h0, .int i_w])).length) Slot.unset).toArray = ls at hl ⊢
  have hl : lv_has ls 3 [(0, .ref h0), (1, .int i_w)] := hl
  obtain ⟨H, hHe⟩ : ∃ H : Heap, H = s.heap := ⟨_, rfl⟩
  rw [← hHe] at hP
  have hS : va_S (fun _ : Nat => False) s.heap H [] := by rw [hHe]; exact hS
  refine pw_heap hHe ?_
  refine lv_aload_n hx hb dX10_toldShift_0 rfl (lv_at hl 0 rfl) ?_
  refine va_get (D := D) (ci := 10) (v := .int j_shiftLow) (C := RX10) (T := TX10) (N := 25) hx hb hts (fun _ h => List.mem_cons_of_mem _ (List.mem_append_right _ h)) hown hK hP 0 rfl rfl 23 (by decide) (hts (.fieldLink RX10 273 "LineCitesModel" "shiftLow" "I") (List.mem_of_getElem? (i := 1) rfl)) (fun _ h9 => h9) rfl dX10_toldShift_1 ?_
  refine pw_join (fun (v3 : Int32) H locs ls => va_P D vwCl [(h0, .inr (10, [.ref m_now, .ref m_draft, .ref m_past, .int j_acts, .ref m_images, .ref m_kept, .ref m_tape, .int j_taped, .int j_at, .int j_start, .int j_token, .int j_value, .int j_fault, .int j_place, .int j_latest, .ref m_low, .ref m_high, .ref m_first, .ref m_second, .ref m_lines, .ref m_others, .int j_shiftFirst, .int j_shiftMany, .int j_shiftLow, .int j_shiftHigh]))] H ∧ va_S (fun _ : Nat => False) s.heap H locs ∧ lv_has ls 3 [(0, .ref h0), (1, .int i_w)]) 0 0 (fun (v3 : Int32) ls => F0 m 29 ls [.int v3]) (fun v3 H locs ls hI => ?_) (fun hJ4 => ?_)
  ·
    obtain ⟨hP, hS, hl⟩ := hI
    have hP : va_P D vwCl [(h0, .inr (10, [.ref m_now, .ref m_draft, .ref m_past, .int j_acts, .ref m_images, .ref m_kept, .ref m_tape, .int j_taped, .int j_at, .int j_start, .int j_token, .int j_value, .int j_fault, .int j_place, .int j_latest, .ref m_low, .ref m_high, .ref m_first, .ref m_second, .ref m_lines, .ref m_others, .int j_shiftFirst, .int j_shiftMany, .int j_shiftLow, .int j_shiftHigh]))] H := hP
    have hK : va_K D vwCl [] s := hK
    have hl : lv_has ls 3 [(0, .ref h0), (1, .int i_w)] := hl
    refine W.eq (g2 := F0 m 29 ls [.int v3]) rfl ?_
    refine lv_istore_n (lv' := [(2, .int v3), (0, .ref h0), (1, .int i_w)]) hx hb dX10_toldShift_29 rfl hl (by decide) rfl (fun ls hl => ?_)
    refine lv_iload_n hx hb dX10_toldShift_30 rfl (lv_at hl 2 rfl) ?_
    refine lv_if_ne (tgt := 41) hx hb dX10_toldShift_31 (by decide) (fun c5 => ?_) (fun c5 => ?_)
    · have nc5 : i_w.toInt ≠ 0 := pw_ne c5 rfl (by decide)
      refine lv_iload_n hx hb dX10_toldShift_41 rfl (lv_at hl 2 rfl) ?_
      refine lv_iconst (v := 1) hx hb dX10_toldShift_42 (by decide) ?_
      refine lv_icmp_ne (tgt := 53) hx hb dX10_toldShift_43 (by decide) (fun c6 => ?_) (fun c6 => ?_)
      · have nc6 : i_w.toInt ≠ 1 := pw_ne c6 rfl (by decide)
        refine lv_iload_n hx hb dX10_toldShift_53 rfl (lv_at hl 0 rfl) ?_
        exact W.iret (v := v3) hx hb hr (fun t ht hW => ⟨⟨v3, (), rfl, trivial, trivial⟩, hS.F ht⟩) hS.2.2 dX10_toldShift_54
      · have nc6 : i_w.toInt = 1 := pw_eq c6 rfl (by decide)
        refine lv_aload_n hx hb dX10_toldShift_46 rfl (lv_at hl 1 rfl) ?_
        refine va_get (D := D) (ci := 10) (v := .int j_shiftMany) (C := RX10) (T := TX10) (N := 25) hx hb hts (fun _ h => List.mem_cons_of_mem _ (List.mem_append_right _ h)) hown hK hP 0 rfl rfl 22 (by decide) (hts (.fieldLink RX10 264 "LineCitesModel" "shiftMany" "I") (List.mem_of_getElem? (i := 3) rfl)) (fun _ h9 => h9) rfl dX10_toldShift_47 ?_
        refine lv_goto (tgt := 54) hx hb dX10_toldShift_50 (by decide) ?_
        exact W.iret (v := j_shiftMany) hx hb hr (fun t ht hW => ⟨⟨j_shiftMany, (), rfl, trivial, trivial⟩, hS.F ht⟩) hS.2.2 dX10_toldShift_54
    · have nc5 : i_w.toInt = 0 := pw_eq c5 rfl (by decide)
      refine lv_aload_n hx hb dX10_toldShift_34 rfl (lv_at hl 1 rfl) ?_
      refine va_get (D := D) (ci := 10) (v := .int j_shiftFirst) (C := RX10) (T := TX10) (N := 25) hx hb hts (fun _ h => List.mem_cons_of_mem _ (List.mem_append_right _ h)) hown hK hP 0 rfl rfl 21 (by decide) (hts (.fieldLink RX10 267 "LineCitesModel" "shiftFirst" "I") (List.mem_of_getElem? (i := 4) rfl)) (fun _ h9 => h9) rfl dX10_toldShift_35 ?_
      refine lv_goto (tgt := 54) hx hb dX10_toldShift_38 (by decide) ?_
      exact W.iret (v := j_shiftFirst) hx hb hr (fun t ht hW => ⟨⟨j_shiftFirst, (), rfl, trivial, trivial⟩, hS.F ht⟩) hS.2.2 dX10_toldShift_54
  ·
    refine lv_if_le (tgt := 14) hx hb dX10_toldShift_4 (by decide) (fun c7 => ?_) (fun c7 => ?_)
    · have nc7 : j_shiftLow.toInt ≤ 0 := pw_le c7 rfl (by decide)
      refine lv_aload_n hx hb dX10_toldShift_14 rfl (lv_at hl 0 rfl) ?_
      refine va_get (D := D) (ci := 10) (v := .int j_shiftHigh) (C := RX10) (T := TX10) (N := 25) hx hb hts (fun _ h => List.mem_cons_of_mem _ (List.mem_append_right _ h)) hown hK hP 0 rfl rfl 24 (by decide) (hts (.fieldLink RX10 270 "LineCitesModel" "shiftHigh" "I") (List.mem_of_getElem? (i := 2) rfl)) (fun _ h9 => h9) rfl dX10_toldShift_15 ?_
      refine lv_if_ge (tgt := 28) hx hb dX10_toldShift_18 (by decide) (fun c8 => ?_) (fun c8 => ?_)
      · have nc8 : 0 ≤ j_shiftHigh.toInt := pw_le c8 (by decide) rfl
        refine lv_iconst (v := 0) hx hb dX10_toldShift_28 (by decide) ?_
        have hP9 : va_P D vwCl [(h0, .inr (10, [.ref m_now, .ref m_draft, .ref m_past, .int j_acts, .ref m_images, .ref m_kept, .ref m_tape, .int j_taped, .int j_at, .int j_start, .int j_token, .int j_value, .int j_fault, .int j_place, .int j_latest, .ref m_low, .ref m_high, .ref m_first, .ref m_second, .ref m_lines, .ref m_others, .int j_shiftFirst, .int j_shiftMany, .int j_shiftLow, .int j_shiftHigh]))] H := hP.sub [0] rfl
        have hl9 : lv_has ls 3 [(0, .ref h0), (1, .int i_w)] := lv_sub hl [0, 1] rfl
        refine W.widen (k := 0) (n := 0) (Nat.le_of_ble_eq_true rfl) (Nat.le_of_ble_eq_true rfl) ?_
        exact hJ4 0 _ _ _ ⟨hP9, hS, hl9⟩
      · have nc8 : j_shiftHigh.toInt < 0 := pw_nle c8 (by decide) rfl
        refine lv_aload_n hx hb dX10_toldShift_21 rfl (lv_at hl 0 rfl) ?_
        refine va_get (D := D) (ci := 10) (v := .int j_shiftHigh) (C := RX10) (T := TX10) (N := 25) hx hb hts (fun _ h => List.mem_cons_of_mem _ (List.mem_append_right _ h)) hown hK hP 0 rfl rfl 24 (by decide) (hts (.fieldLink RX10 270 "LineCitesModel" "shiftHigh" "I") (List.mem_of_getElem? (i := 2) rfl)) (fun _ h9 => h9) rfl dX10_toldShift_22 ?_
        refine lv_goto (tgt := 29) hx hb dX10_toldShift_25 (by decide) ?_
        have hP9 : va_P D vwCl [(h0, .inr (10, [.ref m_now, .ref m_draft, .ref m_past, .int j_acts, .ref m_images, .ref m_kept, .ref m_tape, .int j_taped, .int j_at, .int j_start, .int j_token, .int j_value, .int j_fault, .int j_place, .int j_latest, .ref m_low, .ref m_high, .ref m_first, .ref m_second, .ref m_lines, .ref m_others, .int j_shiftFirst, .int j_shiftMany, .int j_shiftLow, .int j_shiftHigh]))] H := hP.sub [0] rfl
        have hl9 : lv_has ls 3 [(0, .ref h0), (1, .int i_w)] := lv_sub hl [0, 1] rfl
        refine W.widen (k := 0) (n := 0) (Nat.le_of_ble_eq_true rfl) (Nat.le_of_ble_eq_true rfl) ?_
        exact hJ4 j_shiftHigh _ _ _ ⟨hP9, hS, hl9⟩
    · have nc7 : 0 < j_shiftLow.toInt := pw_nle c7 rfl (by decide)
      refine lv_aload_n hx hb dX10_toldShift_7 rfl (lv_at hl 0 rfl) ?_
      refine va_get (D := D) (ci := 10) (v := .int j_shiftLow) (C := RX10) (T := TX10) (N := 25) hx hb hts (fun _ h => List.mem_cons_of_mem _ (List.mem_append_right _ h)) hown hK hP 0 rfl rfl 23 (by decide) (hts (.fieldLink RX10 273 "LineCitesModel" "shiftLow" "I") (List.mem_of_getElem? (i := 1) rfl)) (fun _ h9 => h9) rfl dX10_toldShift_8 ?_
      refine lv_goto (tgt := 29) hx hb dX10_toldShift_11 (by decide) ?_
      have hP9 : va_P D vwCl [(h0, .inr (10, [.ref m_now, .ref m_draft, .ref m_past, .int j_acts, .ref m_images, .ref m_kept, .ref m_tape, .int j_taped, .int j_at, .int j_start, .int j_token, .int j_value, .int j_fault, .int j_place, .int j_latest, .ref m_low, .ref m_high, .ref m_first, .ref m_second, .ref m_lines, .ref m_others, .int j_shiftFirst, .int j_shiftMany, .int j_shiftLow, .int j_shiftHigh]))] H := hP.sub [0] rfl
      have hl9 : lv_has ls 3 [(0, .ref h0), (1, .int i_w)] := lv_sub hl [0, 1] rfl
      refine W.widen (k := 0) (n := 0) (Nat.le_of_ble_eq_true rfl) (Nat.le_of_ble_eq_true rfl) ?_
      exact hJ4 j_shiftLow _ _ _ ⟨hP9, hS, hl9⟩
def w_X10_thousandths : List Cond := .code yX10_thousandths cX10_thousandths 2 (some .int) :: ([.constantFloat RX10 282 (1148846080)])
set_option maxHeartbeats 4000000 in
set_option maxRecDepth 100000 in
theorem c_X10_thousandths (l : Launch) (D : va_G) (i_a : Int32) (i_b : Int32) : MetD lw_cs l yX10_thousandths w_X10_thousandths ({ frames := 0, cells := 0, slots := 0, locals := 0 }) (va_Pc [.int i_a, .int i_b] (fun U => va_P D vwCl [] U.heap ∧ va_K D vwCl [] U)) (va_Qi (fun (r : Int32) (_ : Unit) => True) (fun _ _ => True) (fun _ => False)) 0 0 (fun _ => False) := by
  refine MetD.ofW (cs := lw_cs) (cc := cX10_thousandths) (maxL := 2) (ret := (some .int)) (by decide) rfl ?_
  intro p e s m args below meth c s₁ B hml hv hdd
  obtain ⟨d0, hd0, hde⟩ : ∃ d0, s.drawn.sameBut d0 lw_cs ∧ d0 = s.drawn := ⟨_, hdd, rfl⟩
  rw [← hde]
  obtain ⟨rfl, hP, hK⟩ := hv
  have hx := B.exec
  have hb := B.bytes
  have hr := B.returns
  have hts0 := atoms_spec (ws := w_X10_thousandths) B.pre
  have hts := dr_words hts0 d0
  have hown : s.vm.findClass RX10 = some m.cls := findClass_of_methodNamed B.named
  have hlocks := B.notSynchronized
  have hS : va_S (fun _ : Nat => False) s.heap s.heap [] := va_S.rf
  have hP : va_P D vwCl [] s.heap := hP
  have hl := lv_entry ([.int i_a, .int i_b]) (n := 2) (Nat.le_of_ble_eq_true rfl)
  rw [lg_entry_eq]
  generalize (lg_sl ([.int i_a, .int i_b]) ++ List.replicate (2 - (lg_sl ([.int i_a, .int i_b])).length) Slot.unset).toArray = ls at hl ⊢
  have hl : lv_has ls 2 [(0, .int i_a), (1, .int i_b)] := hl
  obtain ⟨H, hHe⟩ : ∃ H : Heap, H = s.heap := ⟨_, rfl⟩
  rw [← hHe] at hP
  have hS : va_S (fun _ : Nat => False) s.heap H [] := by rw [hHe]; exact hS
  have hown : (s.setDrawn d0).vm.findClass RX10 = some m.cls := hown
  have hK : va_K D vwCl [] (s.setDrawn d0) := hK
  refine pw_heap (s := s.setDrawn d0) hHe ?_
  refine lv_iload_n hx hb dX10_thousandths_0 rfl (lv_at hl 0 rfl) ?_
  refine lv_i2f hx hb dX10_thousandths_1 ?_
  refine lv_topf (fun u1 eu1 => ?_)
  refine lv_iload_n hx hb dX10_thousandths_2 rfl (lv_at hl 1 rfl) ?_
  refine lv_i2f hx hb dX10_thousandths_3 ?_
  refine lv_topf (fun u2 eu2 => ?_)
  refine lv_fdiv_any hd0 lw_bits hx hb dX10_thousandths_4 (fun u3 dr4 _ hdr4 => ?_)
  have hts := dr_words hts0 dr4
  have hown : (s.setDrawn dr4).vm.findClass RX10 = some m.cls := hown
  have hK : va_K D vwCl [] (s.setDrawn dr4) := hK
  refine lv_ldcwf hx hb hown (hts (.constantFloat RX10 282 (1148846080)) (List.mem_of_getElem? (i := 1) rfl)) dX10_thousandths_5 ?_
  refine lv_fmul_any hdr4 lw_bits hx hb dX10_thousandths_8 (fun u5 dr6 _ hdr6 => ?_)
  have hts := dr_words hts0 dr6
  have hown : (s.setDrawn dr6).vm.findClass RX10 = some m.cls := hown
  have hK : va_K D vwCl [] (s.setDrawn dr6) := hK
  refine lv_f2i hx hb dX10_thousandths_9 ?_
  refine lv_topi (fun x7 ex7 => ?_)
  refine W.endD hdr6 ?_
  exact W.iret (v := x7) hx hb hr (fun t ht hW => ⟨⟨x7, (), rfl, trivial, trivial⟩, hS.F ht⟩) hS.2.2 dX10_thousandths_10
def w_X10_scoreOf : List Cond := .code yX10_scoreOf cX10_scoreOf 4 (some .int) :: ([.fieldLink RX10 7 "LineCitesModel" "now" "[I", .methodLink RX10 69 yX10_isMeant, .instanceMethod yX10_isMeant, .selects RX10 yX10_isMeant yX10_isMeant, .initialized RX10, .code yX10_isMeant cX10_isMeant 4 (some .boolean), .fieldLink RX10 29 "LineCitesModel" "low" "[I", .fieldLink RX10 32 "LineCitesModel" "high" "[I"] ++ wsX100)
set_option maxRecDepth 20000 in
theorem g_X10_scoreOf_X10_isMeant : GoodIn w_X10_scoreOf (wsV RX10 69 RX10 yX10_isMeant w_X10_isMeant) := goodIn_r _ [2, 3, 4, 5, 6, 7, 8, 9, 10, 11, 12, 13, 14, 15, 16, 17, 18, 19, 20, 21, 22, 23, 24, 25, 26, 27, 28, 29, 30, 31, 32, 33] rfl (by decide +kernel)
set_option maxHeartbeats 4000000 in
set_option maxRecDepth 100000 in
theorem c_X10_scoreOf (l : Launch) (D : va_G) (h0 : Nat) (i_e : Int32) (m_now : Nat) (m_draft : Nat) (m_past : Nat) (j_acts : Int32) (m_images : Nat) (m_kept : Nat) (m_tape : Nat) (j_taped : Int32) (j_at : Int32) (j_start : Int32) (j_token : Int32) (j_value : Int32) (j_fault : Int32) (j_place : Int32) (j_latest : Int32) (m_low : Nat) (m_high : Nat) (m_first : Nat) (m_second : Nat) (m_lines : Nat) (m_others : Nat) (j_shiftFirst : Int32) (j_shiftMany : Int32) (j_shiftLow : Int32) (j_shiftHigh : Int32) (kI : ClassId) (g_now : Nat → Int32) (g_low : Nat → Int32) (g_high : Nat → Int32) (h0i_e : 0 ≤ i_e.toInt) (h1i_e : i_e.toInt ≤ 4) (hg_now : gV g_now) (hg_low : bP g_low) (hg_high : bP g_high) : Met l yX10_scoreOf w_X10_scoreOf ({ frames := 1, cells := 0, slots := 0, locals := 23 }) (va_Pc [.ref h0, .int i_e] (fun U => va_P D vwCl [(h0, .inr (10, [.ref m_now, .ref m_draft, .ref m_past, .int j_acts, .ref m_images, .ref m_kept, .ref m_tape, .int j_taped, .int j_at, .int j_start, .int j_token, .int j_value, .int j_fault, .int j_place, .int j_latest, .ref m_low, .ref m_high, .ref m_first, .ref m_second, .ref m_lines, .ref m_others, .int j_shiftFirst, .int j_shiftMany, .int j_shiftLow, .int j_shiftHigh])), (m_now, .inl (kI, 192, .inl g_now)), (m_low, .inl (kI, 1000, .inl g_low)), (m_high, .inl (kI, 1000, .inl g_high))] U.heap ∧ va_K D vwCl [(kI, .int)] U)) (va_Qi (fun (r : Int32) (_ : Unit) => True) (fun _ _ => True) (fun _ => False)) 0 0 (fun _ => False) := by
  refine Met.ofW (cc := cX10_scoreOf) (maxL := 4) (ret := (some .int)) (by decide) rfl ?_
  intro p e s m args below meth c s₁ B hml hv
  obtain ⟨rfl, hP, hK⟩ := hv
  have hx := B.exec
  have hb := B.bytes
  have hr := B.returns
  have hts := atoms_spec (ws := w_X10_scoreOf) B.pre
  have hown : s.vm.findClass RX10 = some m.cls := findClass_of_methodNamed B.named
  have hlocks := B.notSynchronized
  have hS : va_S (fun _ : Nat => False) s.heap s.heap [] := va_S.rf
  have hP : va_P D vwCl [(h0, .inr (10, [.ref m_now, .ref m_draft, .ref m_past, .int j_acts, .ref m_images, .ref m_kept, .ref m_tape, .int j_taped, .int j_at, .int j_start, .int j_token, .int j_value, .int j_fault, .int j_place, .int j_latest, .ref m_low, .ref m_high, .ref m_first, .ref m_second, .ref m_lines, .ref m_others, .int j_shiftFirst, .int j_shiftMany, .int j_shiftLow, .int j_shiftHigh])), (m_now, .inl (kI, 192, .inl g_now)), (m_low, .inl (kI, 1000, .inl g_low)), (m_high, .inl (kI, 1000, .inl g_high))] s.heap := hP
  have hl := lv_entry ([.ref h0, .int i_e]) (n := 4) (Nat.le_of_ble_eq_true rfl)
  rw [lg_entry_eq]
  generalize (lg_sl ([.ref h0, .int i_e]) ++ List.replicate (4 - (lg_sl ([.ref h0, .int i_e])).length) Slot.unset).toArray = ls at hl ⊢
  have hl : lv_has ls 4 [(0, .ref h0), (1, .int i_e)] := hl
  obtain ⟨H, hHe⟩ : ∃ H : Heap, H = s.heap := ⟨_, rfl⟩
  rw [← hHe] at hP
  have hS : va_S (fun _ : Nat => False) s.heap H [] := by rw [hHe]; exact hS
  refine pw_heap hHe ?_
  refine lv_iconst (v := 0) hx hb dX10_scoreOf_0 (by decide) ?_
  refine lv_istore_n (lv' := [(2, .int 0), (0, .ref h0), (1, .int i_e)]) hx hb dX10_scoreOf_1 rfl hl (by decide) rfl (fun ls hl => ?_)
  refine lv_iconst (v := 0) hx hb dX10_scoreOf_2 (by decide) ?_
  refine lv_istore_n (lv' := [(3, .int 0), (2, .int 0), (0, .ref h0), (1, .int i_e)]) hx hb dX10_scoreOf_3 rfl hl (by decide) rfl (fun ls hl => ?_)
  have hl9 : lv_has ls 4 [(0, .ref h0), (1, .int i_e), (2, .int 0), (3, .int 0)] := lv_sub hl [2, 3, 1, 0] rfl
  refine pw_loop (fun (zz : Int32 × Int32) H locs ls => match zz with | (v63, v64) => va_P D vwCl [(h0, .inr (10, [.ref m_now, .ref m_draft, .ref m_past, .int j_acts, .ref m_images, .ref m_kept, .ref m_tape, .int j_taped, .int j_at, .int j_start, .int j_token, .int j_value, .int j_fault, .int j_place, .int j_latest, .ref m_low, .ref m_high, .ref m_first, .ref m_second, .ref m_lines, .ref m_others, .int j_shiftFirst, .int j_shiftMany, .int j_shiftLow, .int j_shiftHigh])), (m_now, .inl (kI, 192, .inl g_now)), (m_low, .inl (kI, 1000, .inl g_low)), (m_high, .inl (kI, 1000, .inl g_high))] H ∧ va_S (fun _ : Nat => False) s.heap H locs ∧ lv_has ls 4 [(0, .ref h0), (1, .int i_e), (2, .int v63), (3, .int v64)] ∧ 0 ≤ v64.toInt) (fun (zz : Int32 × Int32)  => match zz with | (v63, v64) => (2147483648 - v64.toInt).toNat) 0 0 (fun (zz : Int32 × Int32) ls => match zz with | (v63, v64) => F0 m 4 ls []) (fun zz H locs ls ih65 hI => ?_) (0, 0) _ _ _ ⟨hP, hS, hl9, (by decide)⟩
  obtain ⟨v63, v64⟩ := zz
  obtain ⟨hP, hS, hl, bv64⟩ := hI
  have bv64 : 0 ≤ v64.toInt := bv64
  have hP : va_P D vwCl [(h0, .inr (10, [.ref m_now, .ref m_draft, .ref m_past, .int j_acts, .ref m_images, .ref m_kept, .ref m_tape, .int j_taped, .int j_at, .int j_start, .int j_token, .int j_value, .int j_fault, .int j_place, .int j_latest, .ref m_low, .ref m_high, .ref m_first, .ref m_second, .ref m_lines, .ref m_others, .int j_shiftFirst, .int j_shiftMany, .int j_shiftLow, .int j_shiftHigh])), (m_now, .inl (kI, 192, .inl g_now)), (m_low, .inl (kI, 1000, .inl g_low)), (m_high, .inl (kI, 1000, .inl g_high))] H := hP
  have hK : va_K D vwCl [(kI, .int)] s := hK
  have hl : lv_has ls 4 [(0, .ref h0), (1, .int i_e), (2, .int v63), (3, .int v64)] := hl
  refine W.eq (g2 := F0 m 4 ls []) rfl ?_
  refine lv_iload_n hx hb dX10_scoreOf_4 rfl (lv_at hl 3 rfl) ?_
  refine lv_aload_n hx hb dX10_scoreOf_5 rfl (lv_at hl 0 rfl) ?_
  refine va_get (D := D) (ci := 10) (v := .ref m_now) (C := RX10) (T := TX10) (N := 25) hx hb hts (fun _ h => List.mem_cons_of_mem _ (List.mem_append_right _ h)) hown hK hP 0 rfl rfl 0 (by decide) (hts (.fieldLink RX10 7 "LineCitesModel" "now" "[I") (List.mem_of_getElem? (i := 1) rfl)) (fun _ h9 => h9) rfl dX10_scoreOf_6 ?_
  refine lv_iconst (v := 2) hx hb dX10_scoreOf_9 (by decide) ?_
  refine va_iald hx hb hK hP 1 0 rfl rfl (vp_in_iff.mpr (by decide)) dX10_scoreOf_10 ?_
  refine lv_topi (fun x66 ex66 => ?_)
  have nx66 : 0 ≤ x66.toInt ∧ x66.toInt ≤ 12 := gV_2 hg_now ex66
  refine lv_icmp_ge (tgt := 62) hx hb dX10_scoreOf_11 (by decide) (fun c82 => ?_) (fun c82 => ?_)
  · have nc82 : x66.toInt ≤ v64.toInt := pw_le c82 rfl rfl
    have mc82v64 := pw_max v64
    have mc82x66 := pw_max x66
    refine lv_iload_n hx hb dX10_scoreOf_62 rfl (lv_at hl 2 rfl) ?_
    exact W.iret (v := v63) hx hb hr (fun t ht hW => ⟨⟨v63, (), rfl, trivial, trivial⟩, hS.F ht⟩) hS.2.2 dX10_scoreOf_63
  · have nc82 : v64.toInt < x66.toInt := pw_nle c82 rfl rfl
    have mc82v64 := pw_max v64
    have mc82x66 := pw_max x66
    refine lv_iload_n hx hb dX10_scoreOf_14 rfl (lv_at hl 2 rfl) ?_
    refine lv_aload_n hx hb dX10_scoreOf_15 rfl (lv_at hl 0 rfl) ?_
    refine lv_iload_n hx hb dX10_scoreOf_16 rfl (lv_at hl 1 rfl) ?_
    refine lv_aload_n hx hb dX10_scoreOf_17 rfl (lv_at hl 0 rfl) ?_
    refine va_get (D := D) (ci := 10) (v := .ref m_now) (C := RX10) (T := TX10) (N := 25) hx hb hts (fun _ h => List.mem_cons_of_mem _ (List.mem_append_right _ h)) hown hK hP 0 rfl rfl 0 (by decide) (hts (.fieldLink RX10 7 "LineCitesModel" "now" "[I") (List.mem_of_getElem? (i := 1) rfl)) (fun _ h9 => h9) rfl dX10_scoreOf_18 ?_
    refine lv_sipush (v := 168) hx hb dX10_scoreOf_21 (by decide) ?_
    refine lv_iconst (v := 2) hx hb dX10_scoreOf_24 (by decide) ?_
    refine lv_iload_n hx hb dX10_scoreOf_25 rfl (lv_at hl 3 rfl) ?_
    refine lv_imul hx hb dX10_scoreOf_26 ?_
    refine lv_topi (fun x83 ex83 => ?_)
    have tx83 : x83.toInt = 2 * v64.toInt := pw_mulX ex83 (by decide) rfl (by omega) (by omega)
    refine lv_iadd hx hb dX10_scoreOf_27 ?_
    refine lv_topi (fun x84 ex84 => ?_)
    have tx84 : x84.toInt = 168 + x83.toInt := pw_addX ex84 (by decide) rfl (by omega) (by omega)
    refine va_iald hx hb hK hP 1 0 rfl rfl (vp_in_iff.mpr ⟨by omega, by omega⟩) dX10_scoreOf_28 ?_
    refine lv_topi (fun x85 ex85 => ?_)
    refine lv_aload_n hx hb dX10_scoreOf_29 rfl (lv_at hl 0 rfl) ?_
    refine va_get (D := D) (ci := 10) (v := .ref m_now) (C := RX10) (T := TX10) (N := 25) hx hb hts (fun _ h => List.mem_cons_of_mem _ (List.mem_append_right _ h)) hown hK hP 0 rfl rfl 0 (by decide) (hts (.fieldLink RX10 7 "LineCitesModel" "now" "[I") (List.mem_of_getElem? (i := 1) rfl)) (fun _ h9 => h9) rfl dX10_scoreOf_30 ?_
    refine lv_sipush (v := 168) hx hb dX10_scoreOf_33 (by decide) ?_
    refine lv_iconst (v := 2) hx hb dX10_scoreOf_36 (by decide) ?_
    refine lv_iload_n hx hb dX10_scoreOf_37 rfl (lv_at hl 3 rfl) ?_
    refine lv_imul hx hb dX10_scoreOf_38 ?_
    refine lv_topi (fun x86 ex86 => ?_)
    have tx86 : x86.toInt = 2 * v64.toInt := pw_mulX ex86 (by decide) rfl (by omega) (by omega)
    refine lv_iadd hx hb dX10_scoreOf_39 ?_
    refine lv_topi (fun x87 ex87 => ?_)
    have tx87 : x87.toInt = 168 + x86.toInt := pw_addX ex87 (by decide) rfl (by omega) (by omega)
    refine lv_iconst (v := 1) hx hb dX10_scoreOf_40 (by decide) ?_
    refine lv_iadd hx hb dX10_scoreOf_41 ?_
    refine lv_topi (fun x88 ex88 => ?_)
    have tx88 : x88.toInt = x87.toInt + 1 := pw_addX ex88 rfl (by decide) (by omega) (by omega)
    refine va_iald hx hb hK hP 1 0 rfl rfl (vp_in_iff.mpr ⟨by omega, by omega⟩) dX10_scoreOf_42 ?_
    refine lv_topi (fun x89 ex89 => ?_)
    have zx89 := pC_at (a := 168 + 2 * v64.toInt.toNat + 1) ex89 (by omega)
    have nx89 := gV_l hg_now zx89 (by omega)
    have hPc := hP.sub (ws' := [(h0, .inr (10, [.ref m_now, .ref m_draft, .ref m_past, .int j_acts, .ref m_images, .ref m_kept, .ref m_tape, .int j_taped, .int j_at, .int j_start, .int j_token, .int j_value, .int j_fault, .int j_place, .int j_latest, .ref m_low, .ref m_high, .ref m_first, .ref m_second, .ref m_lines, .ref m_others, .int j_shiftFirst, .int j_shiftMany, .int j_shiftLow, .int j_shiftHigh])), (m_low, .inl (kI, 1000, .inl g_low)), (m_high, .inl (kI, 1000, .inl g_high))]) [0, 2, 3] rfl
    have hKc := hK.sub (tys' := [(kI, .int)]) [0] rfl
    refine va_calli (va_runV (As := [.int i_e, .int x85, .int x89]) (rest := [.int v63]) ⟨hx, hb, hml, hown, hts⟩ (c_X10_isMeant l D h0 i_e x85 x89 m_now m_draft m_past j_acts m_images m_kept m_tape j_taped j_at j_start j_token j_value j_fault j_place j_latest m_low m_high m_first m_second m_lines m_others j_shiftFirst j_shiftMany j_shiftLow j_shiftHigh kI g_low g_high (by first | decide | omega) (by first | decide | omega) (by first | decide | omega) (by first | decide | omega) hg_low hg_high) (cwV 3 hts g_X10_scoreOf_X10_isMeant rfl rfl rfl (by decide +kernel) ⟨Nat.le_of_ble_eq_true rfl, Nat.le_of_ble_eq_true rfl⟩) ⟨fun a U g mk q => by obtain ⟨q0, qP, qK⟩ := q; exact ⟨q0, qP, va_K.moved (u := U) (U := U.calling g mk a) (Vm.Alike.refl U.vm) qK⟩, va_recv hKc hPc (ci := 10) (q0 := 0) rfl rfl, fun U hU hW => ⟨rfl, by rw [hU]; exact hPc, va_K.moved hW.alike hKc⟩⟩ rfl rfl hl.1 rfl (lv_room (Nat.le_of_ble_eq_true rfl)) dX10_scoreOf_43 ⟨Nat.le_of_ble_eq_true rfl, Nat.le_of_ble_eq_true rfl⟩) hS (fun _ _ h => h.elim) (fun _ h => h.elim) (fun r90 u t H1 locs ht hvm hw hB hz1 hk1 hS => ?_)
    have hP := pw_keep hP (fun q hq => hk1 q hq (fun h => h))
    generalize H1 = H at hP hS ⊢
    refine W.widen (k := 0) (n := 0) (Nat.le_of_ble_eq_true rfl) (Nat.le_of_ble_eq_true rfl) ?_
    have bor90 := hw.1
    have zor90 := pw_boolI bor90
    refine pw_join (fun (v92 : Int32) H locs ls => va_P D vwCl [(h0, .inr (10, [.ref m_now, .ref m_draft, .ref m_past, .int j_acts, .ref m_images, .ref m_kept, .ref m_tape, .int j_taped, .int j_at, .int j_start, .int j_token, .int j_value, .int j_fault, .int j_place, .int j_latest, .ref m_low, .ref m_high, .ref m_first, .ref m_second, .ref m_lines, .ref m_others, .int j_shiftFirst, .int j_shiftMany, .int j_shiftLow, .int j_shiftHigh])), (m_now, .inl (kI, 192, .inl g_now)), (m_low, .inl (kI, 1000, .inl g_low)), (m_high, .inl (kI, 1000, .inl g_high))] H ∧ va_S (fun _ : Nat => False) s.heap H locs ∧ lv_has ls 4 [(0, .ref h0), (1, .int i_e), (2, .int v63), (3, .int v64)]) 0 0 (fun (v92 : Int32) ls => F0 m 54 ls [.int v92, .int v63]) (fun v92 H locs ls hI => ?_) (fun hJ93 => ?_)
    ·
      obtain ⟨hP, hS, hl⟩ := hI
      have hP : va_P D vwCl [(h0, .inr (10, [.ref m_now, .ref m_draft, .ref m_past, .int j_acts, .ref m_images, .ref m_kept, .ref m_tape, .int j_taped, .int j_at, .int j_start, .int j_token, .int j_value, .int j_fault, .int j_place, .int j_latest, .ref m_low, .ref m_high, .ref m_first, .ref m_second, .ref m_lines, .ref m_others, .int j_shiftFirst, .int j_shiftMany, .int j_shiftLow, .int j_shiftHigh])), (m_now, .inl (kI, 192, .inl g_now)), (m_low, .inl (kI, 1000, .inl g_low)), (m_high, .inl (kI, 1000, .inl g_high))] H := hP
      have hK : va_K D vwCl [(kI, .int)] s := hK
      have hl : lv_has ls 4 [(0, .ref h0), (1, .int i_e), (2, .int v63), (3, .int v64)] := hl
      refine W.eq (g2 := F0 m 54 ls [.int v92, .int v63]) rfl ?_
      refine lv_iadd hx hb dX10_scoreOf_54 ?_
      refine lv_topi (fun x94 ex94 => ?_)
      refine lv_istore_n (lv' := [(2, .int x94), (0, .ref h0), (1, .int i_e), (3, .int v64)]) hx hb dX10_scoreOf_55 rfl hl (by decide) rfl (fun ls hl => ?_)
      obtain ⟨x95, ex95⟩ : ∃ y : Int32, y = v64 + 1 := ⟨_, rfl⟩
      have tx95 : x95.toInt = v64.toInt + 1 := pw_addX ex95 rfl (by decide) (by omega) (by omega)
      refine lv_iinc (v := x95) (lv' := [(3, .int x95), (2, .int x94), (0, .ref h0), (1, .int i_e)]) hx hb dX10_scoreOf_56 hl (k := 3) rfl (by rw [ex95]; rfl) (by decide) rfl (fun ls hl => ?_)
      refine lv_goto (tgt := 4) hx hb dX10_scoreOf_59 (by decide) ?_
      have hP9 : va_P D vwCl [(h0, .inr (10, [.ref m_now, .ref m_draft, .ref m_past, .int j_acts, .ref m_images, .ref m_kept, .ref m_tape, .int j_taped, .int j_at, .int j_start, .int j_token, .int j_value, .int j_fault, .int j_place, .int j_latest, .ref m_low, .ref m_high, .ref m_first, .ref m_second, .ref m_lines, .ref m_others, .int j_shiftFirst, .int j_shiftMany, .int j_shiftLow, .int j_shiftHigh])), (m_now, .inl (kI, 192, .inl g_now)), (m_low, .inl (kI, 1000, .inl g_low)), (m_high, .inl (kI, 1000, .inl g_high))] H := hP.sub [0, 1, 2, 3] rfl
      have hl9 : lv_has ls 4 [(0, .ref h0), (1, .int i_e), (2, .int x94), (3, .int x95)] := lv_sub hl [2, 3, 1, 0] rfl
      refine W.widen (k := 0) (n := 0) (Nat.le_of_ble_eq_true rfl) (Nat.le_of_ble_eq_true rfl) ?_
      exact ih65 (x94, x95) _ _ _ (pw_up ex95 (by omega)) ⟨hP9, hS, hl9, (pw_upge ex95 (by omega) (by omega))⟩
    ·
      refine lv_if_eq (tgt := 53) hx hb dX10_scoreOf_46 (by decide) (fun c96 => ?_) (fun c96 => ?_)
      · have nc96 : r90.toInt = 0 := pw_eq c96 rfl (by decide)
        refine lv_iconst (v := 0) hx hb dX10_scoreOf_53 (by decide) ?_
        have hP9 : va_P D vwCl [(h0, .inr (10, [.ref m_now, .ref m_draft, .ref m_past, .int j_acts, .ref m_images, .ref m_kept, .ref m_tape, .int j_taped, .int j_at, .int j_start, .int j_token, .int j_value, .int j_fault, .int j_place, .int j_latest, .ref m_low, .ref m_high, .ref m_first, .ref m_second, .ref m_lines, .ref m_others, .int j_shiftFirst, .int j_shiftMany, .int j_shiftLow, .int j_shiftHigh])), (m_now, .inl (kI, 192, .inl g_now)), (m_low, .inl (kI, 1000, .inl g_low)), (m_high, .inl (kI, 1000, .inl g_high))] H := hP.sub [0, 1, 2, 3] rfl
        have hl9 : lv_has ls 4 [(0, .ref h0), (1, .int i_e), (2, .int v63), (3, .int v64)] := lv_sub hl [0, 1, 2, 3] rfl
        refine W.widen (k := 0) (n := 0) (Nat.le_of_ble_eq_true rfl) (Nat.le_of_ble_eq_true rfl) ?_
        exact hJ93 0 _ _ _ ⟨hP9, hS, hl9⟩
      · have nc96 : r90.toInt ≠ 0 := pw_ne c96 rfl (by decide)
        refine lv_iconst (v := 1) hx hb dX10_scoreOf_49 (by decide) ?_
        refine lv_goto (tgt := 54) hx hb dX10_scoreOf_50 (by decide) ?_
        have hP9 : va_P D vwCl [(h0, .inr (10, [.ref m_now, .ref m_draft, .ref m_past, .int j_acts, .ref m_images, .ref m_kept, .ref m_tape, .int j_taped, .int j_at, .int j_start, .int j_token, .int j_value, .int j_fault, .int j_place, .int j_latest, .ref m_low, .ref m_high, .ref m_first, .ref m_second, .ref m_lines, .ref m_others, .int j_shiftFirst, .int j_shiftMany, .int j_shiftLow, .int j_shiftHigh])), (m_now, .inl (kI, 192, .inl g_now)), (m_low, .inl (kI, 1000, .inl g_low)), (m_high, .inl (kI, 1000, .inl g_high))] H := hP.sub [0, 1, 2, 3] rfl
        have hl9 : lv_has ls 4 [(0, .ref h0), (1, .int i_e), (2, .int v63), (3, .int v64)] := lv_sub hl [0, 1, 2, 3] rfl
        refine W.widen (k := 0) (n := 0) (Nat.le_of_ble_eq_true rfl) (Nat.le_of_ble_eq_true rfl) ?_
        exact hJ93 1 _ _ _ ⟨hP9, hS, hl9⟩
