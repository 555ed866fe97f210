theorem dX6_isPlace_0 : decode cX6_isPlace 0 = .ok (.iload_n 1, 1) := by decide +kernel
theorem dX6_isPlace_1 : decode cX6_isPlace 1 = .ok (.ifCond .lt 34, 3) := by decide +kernel
theorem dX6_isPlace_4 : decode cX6_isPlace 4 = .ok (.iload_n 1, 1) := by decide +kernel
theorem dX6_isPlace_5 : decode cX6_isPlace 5 = .ok (.aload_n 0, 1) := by decide +kernel
theorem dX6_isPlace_6 : decode cX6_isPlace 6 = .ok (.getfield 9, 3) := by decide +kernel
theorem dX6_isPlace_9 : decode cX6_isPlace 9 = .ok (.arraylength, 1) := by decide +kernel
theorem dX6_isPlace_10 : decode cX6_isPlace 10 = .ok (.if_icmp .ge 25, 3) := by decide +kernel
theorem dX6_isPlace_13 : decode cX6_isPlace 13 = .ok (.iload_n 1, 1) := by decide +kernel
theorem dX6_isPlace_14 : decode cX6_isPlace 14 = .ok (.aload_n 0, 1) := by decide +kernel
theorem dX6_isPlace_15 : decode cX6_isPlace 15 = .ok (.getfield 15, 3) := by decide +kernel
theorem dX6_isPlace_18 : decode cX6_isPlace 18 = .ok (.arraylength, 1) := by decide +kernel
theorem dX6_isPlace_19 : decode cX6_isPlace 19 = .ok (.if_icmp .ge 16, 3) := by decide +kernel
theorem dX6_isPlace_22 : decode cX6_isPlace 22 = .ok (.iload_n 1, 1) := by decide +kernel
theorem dX6_isPlace_23 : decode cX6_isPlace 23 = .ok (.aload_n 0, 1) := by decide +kernel
theorem dX6_isPlace_24 : decode cX6_isPlace 24 = .ok (.getfield 18, 3) := by decide +kernel
theorem dX6_isPlace_27 : decode cX6_isPlace 27 = .ok (.arraylength, 1) := by decide +kernel
theorem dX6_isPlace_28 : decode cX6_isPlace 28 = .ok (.if_icmp .ge 7, 3) := by decide +kernel
theorem dX6_isPlace_31 : decode cX6_isPlace 31 = .ok (.iconst 1, 1) := by decide +kernel
theorem dX6_isPlace_32 : decode cX6_isPlace 32 = .ok (.goto 4, 3) := by decide +kernel
theorem dX6_isPlace_35 : decode cX6_isPlace 35 = .ok (.iconst 0, 1) := by decide +kernel
theorem dX6_isPlace_36 : decode cX6_isPlace 36 = .ok (.ireturn, 1) := by decide +kernel
theorem dX6_clear_0 : decode cX6_clear 0 = .ok (.iconst 0, 1) := by decide +kernel
theorem dX6_clear_1 : decode cX6_clear 1 = .ok (.istore_n 1, 1) := by decide +kernel
theorem dX6_clear_2 : decode cX6_clear 2 = .ok (.iload_n 1, 1) := by decide +kernel
theorem dX6_clear_3 : decode cX6_clear 3 = .ok (.aload_n 0, 1) := by decide +kernel
theorem dX6_clear_4 : decode cX6_clear 4 = .ok (.getfield 9, 3) := by decide +kernel
theorem dX6_clear_7 : decode cX6_clear 7 = .ok (.arraylength, 1) := by decide +kernel
theorem dX6_clear_8 : decode cX6_clear 8 = .ok (.if_icmp .ge 16, 3) := by decide +kernel
theorem dX6_clear_11 : decode cX6_clear 11 = .ok (.aload_n 0, 1) := by decide +kernel
theorem dX6_clear_12 : decode cX6_clear 12 = .ok (.getfield 9, 3) := by decide +kernel
theorem dX6_clear_15 : decode cX6_clear 15 = .ok (.iload_n 1, 1) := by decide +kernel
theorem dX6_clear_16 : decode cX6_clear 16 = .ok (.iconst 0, 1) := by decide +kernel
theorem dX6_clear_17 : decode cX6_clear 17 = .ok (.iastore, 1) := by decide +kernel
theorem dX6_clear_18 : decode cX6_clear 18 = .ok (.iinc 1 1, 3) := by decide +kernel
theorem dX6_clear_21 : decode cX6_clear 21 = .ok (.goto (-19), 3) := by decide +kernel
theorem dX6_clear_24 : decode cX6_clear 24 = .ok (.return_, 1) := by decide +kernel
theorem dX6_put_0 : decode cX6_put 0 = .ok (.aload_n 0, 1) := by decide +kernel
theorem dX6_put_1 : decode cX6_put 1 = .ok (.iload_n 1, 1) := by decide +kernel
theorem dX6_put_2 : decode cX6_put 2 = .ok (.invokevirtual 21, 3) := by decide +kernel
theorem dX6_put_5 : decode cX6_put 5 = .ok (.ifCond .ne 4, 3) := by decide +kernel
theorem dX6_put_8 : decode cX6_put 8 = .ok (.return_, 1) := by decide +kernel
theorem dX6_put_9 : decode cX6_put 9 = .ok (.aload_n 0, 1) := by decide +kernel
theorem dX6_put_10 : decode cX6_put 10 = .ok (.getfield 9, 3) := by decide +kernel
theorem dX6_put_13 : decode cX6_put 13 = .ok (.iload_n 1, 1) := by decide +kernel
theorem dX6_put_14 : decode cX6_put 14 = .ok (.iaload, 1) := by decide +kernel
theorem dX6_put_15 : decode cX6_put 15 = .ok (.ifCond .eq 13, 3) := by decide +kernel
theorem dX6_put_18 : decode cX6_put 18 = .ok (.iload_n 2, 1) := by decide +kernel
theorem dX6_put_19 : decode cX6_put 19 = .ok (.aload_n 0, 1) := by decide +kernel
theorem dX6_put_20 : decode cX6_put 20 = .ok (.getfield 15, 3) := by decide +kernel
theorem dX6_put_23 : decode cX6_put 23 = .ok (.iload_n 1, 1) := by decide +kernel
theorem dX6_put_24 : decode cX6_put 24 = .ok (.iaload, 1) := by decide +kernel
theorem dX6_put_25 : decode cX6_put 25 = .ok (.if_icmp .ge 10, 3) := by decide +kernel
theorem dX6_put_28 : decode cX6_put 28 = .ok (.aload_n 0, 1) := by decide +kernel
theorem dX6_put_29 : decode cX6_put 29 = .ok (.getfield 15, 3) := by decide +kernel
theorem dX6_put_32 : decode cX6_put 32 = .ok (.iload_n 1, 1) := by decide +kernel
theorem dX6_put_33 : decode cX6_put 33 = .ok (.iload_n 2, 1) := by decide +kernel
theorem dX6_put_34 : decode cX6_put 34 = .ok (.iastore, 1) := by decide +kernel
theorem dX6_put_35 : decode cX6_put 35 = .ok (.aload_n 0, 1) := by decide +kernel
theorem dX6_put_36 : decode cX6_put 36 = .ok (.getfield 9, 3) := by decide +kernel
theorem dX6_put_39 : decode cX6_put 39 = .ok (.iload_n 1, 1) := by decide +kernel
theorem dX6_put_40 : decode cX6_put 40 = .ok (.iaload, 1) := by decide +kernel
theorem dX6_put_41 : decode cX6_put 41 = .ok (.ifCond .eq 13, 3) := by decide +kernel
theorem dX6_put_44 : decode cX6_put 44 = .ok (.iload_n 2, 1) := by decide +kernel
theorem dX6_put_45 : decode cX6_put 45 = .ok (.aload_n 0, 1) := by decide +kernel
theorem dX6_put_46 : decode cX6_put 46 = .ok (.getfield 18, 3) := by decide +kernel
theorem dX6_put_49 : decode cX6_put 49 = .ok (.iload_n 1, 1) := by decide +kernel
theorem dX6_put_50 : decode cX6_put 50 = .ok (.iaload, 1) := by decide +kernel
theorem dX6_put_51 : decode cX6_put 51 = .ok (.if_icmp .le 10, 3) := by decide +kernel
theorem dX6_put_54 : decode cX6_put 54 = .ok (.aload_n 0, 1) := by decide +kernel
theorem dX6_put_55 : decode cX6_put 55 = .ok (.getfield 18, 3) := by decide +kernel
theorem dX6_put_58 : decode cX6_put 58 = .ok (.iload_n 1, 1) := by decide +kernel
theorem dX6_put_59 : decode cX6_put 59 = .ok (.iload_n 2, 1) := by decide +kernel
theorem dX6_put_60 : decode cX6_put 60 = .ok (.iastore, 1) := by decide +kernel
theorem dX6_put_61 : decode cX6_put 61 = .ok (.aload_n 0, 1) := by decide +kernel
theorem dX6_put_62 : decode cX6_put 62 = .ok (.getfield 9, 3) := by decide +kernel
theorem dX6_put_65 : decode cX6_put 65 = .ok (.iload_n 1, 1) := by decide +kernel
theorem dX6_put_66 : decode cX6_put 66 = .ok (.dup2, 1) := by decide +kernel
theorem dX6_put_67 : decode cX6_put 67 = .ok (.iaload, 1) := by decide +kernel
theorem dX6_put_68 : decode cX6_put 68 = .ok (.iconst 1, 1) := by decide +kernel
theorem dX6_put_69 : decode cX6_put 69 = .ok (.iadd, 1) := by decide +kernel
theorem dX6_put_70 : decode cX6_put 70 = .ok (.iastore, 1) := by decide +kernel
theorem dX6_put_71 : decode cX6_put 71 = .ok (.return_, 1) := by decide +kernel
theorem dX6_hasSome_0 : decode cX6_hasSome 0 = .ok (.aload_n 0, 1) := by decide +kernel
theorem dX6_hasSome_1 : decode cX6_hasSome 1 = .ok (.iload_n 1, 1) := by decide +kernel
theorem dX6_hasSome_2 : decode cX6_hasSome 2 = .ok (.invokevirtual 21, 3) := by decide +kernel
theorem dX6_hasSome_5 : decode cX6_hasSome 5 = .ok (.ifCond .eq 16, 3) := by decide +kernel
theorem dX6_hasSome_8 : decode cX6_hasSome 8 = .ok (.aload_n 0, 1) := by decide +kernel
theorem dX6_hasSome_9 : decode cX6_hasSome 9 = .ok (.getfield 9, 3) := by decide +kernel
theorem dX6_hasSome_12 : decode cX6_hasSome 12 = .ok (.iload_n 1, 1) := by decide +kernel
theorem dX6_hasSome_13 : decode cX6_hasSome 13 = .ok (.iaload, 1) := by decide +kernel
theorem dX6_hasSome_14 : decode cX6_hasSome 14 = .ok (.ifCond .le 7, 3) := by decide +kernel
theorem dX6_hasSome_17 : decode cX6_hasSome 17 = .ok (.iconst 1, 1) := by decide +kernel
theorem dX6_hasSome_18 : decode cX6_hasSome 18 = .ok (.goto 4, 3) := by decide +kernel
theorem dX6_hasSome_21 : decode cX6_hasSome 21 = .ok (.iconst 0, 1) := by decide +kernel
theorem dX6_hasSome_22 : decode cX6_hasSome 22 = .ok (.ireturn, 1) := by decide +kernel
theorem dX6_fillWithLines_0 : decode cX6_fillWithLines 0 = .ok (.aload_n 0, 1) := by decide +kernel
theorem dX6_fillWithLines_1 : decode cX6_fillWithLines 1 = .ok (.invokevirtual 25, 3) := by decide +kernel
theorem dX6_fillWithLines_4 : decode cX6_fillWithLines 4 = .ok (.iconst 0, 1) := by decide +kernel
theorem dX6_fillWithLines_5 : decode cX6_fillWithLines 5 = .ok (.istore_n 2, 1) := by decide +kernel
theorem dX6_fillWithLines_6 : decode cX6_fillWithLines 6 = .ok (.iload_n 2, 1) := by decide +kernel
theorem dX6_fillWithLines_7 : decode cX6_fillWithLines 7 = .ok (.aload_n 1, 1) := by decide +kernel
theorem dX6_fillWithLines_8 : decode cX6_fillWithLines 8 = .ok (.invokevirtual 28, 3) := by decide +kernel
theorem dX6_fillWithLines_11 : decode cX6_fillWithLines 11 = .ok (.if_icmp .ge 47, 3) := by decide +kernel
theorem dX6_fillWithLines_14 : decode cX6_fillWithLines 14 = .ok (.aload_n 1, 1) := by decide +kernel
theorem dX6_fillWithLines_15 : decode cX6_fillWithLines 15 = .ok (.iload_n 2, 1) := by decide +kernel
theorem dX6_fillWithLines_16 : decode cX6_fillWithLines 16 = .ok (.invokevirtual 34, 3) := by decide +kernel
theorem dX6_fillWithLines_19 : decode cX6_fillWithLines 19 = .ok (.ifCond .ne 6, 3) := by decide +kernel
theorem dX6_fillWithLines_22 : decode cX6_fillWithLines 22 = .ok (.goto 30, 3) := by decide +kernel
theorem dX6_fillWithLines_25 : decode cX6_fillWithLines 25 = .ok (.aload_n 1, 1) := by decide +kernel
theorem dX6_fillWithLines_26 : decode cX6_fillWithLines 26 = .ok (.iload_n 2, 1) := by decide +kernel
theorem dX6_fillWithLines_27 : decode cX6_fillWithLines 27 = .ok (.invokevirtual 37, 3) := by decide +kernel
theorem dX6_fillWithLines_30 : decode cX6_fillWithLines 30 = .ok (.istore_n 3, 1) := by decide +kernel
theorem dX6_fillWithLines_31 : decode cX6_fillWithLines 31 = .ok (.iload_n 3, 1) := by decide +kernel
theorem dX6_fillWithLines_32 : decode cX6_fillWithLines 32 = .ok (.aload_n 1, 1) := by decide +kernel
theorem dX6_fillWithLines_33 : decode cX6_fillWithLines 33 = .ok (.iload_n 2, 1) := by decide +kernel
theorem dX6_fillWithLines_34 : decode cX6_fillWithLines 34 = .ok (.invokevirtual 41, 3) := by decide +kernel
theorem dX6_fillWithLines_37 : decode cX6_fillWithLines 37 = .ok (.if_icmp .gt 15, 3) := by decide +kernel
theorem dX6_fillWithLines_40 : decode cX6_fillWithLines 40 = .ok (.aload_n 0, 1) := by decide +kernel
theorem dX6_fillWithLines_41 : decode cX6_fillWithLines 41 = .ok (.iload_n 3, 1) := by decide +kernel
theorem dX6_fillWithLines_42 : decode cX6_fillWithLines 42 = .ok (.iload_n 2, 1) := by decide +kernel
theorem dX6_fillWithLines_43 : decode cX6_fillWithLines 43 = .ok (.invokevirtual 44, 3) := by decide +kernel
theorem dX6_fillWithLines_46 : decode cX6_fillWithLines 46 = .ok (.iinc 3 1, 3) := by decide +kernel
theorem dX6_fillWithLines_49 : decode cX6_fillWithLines 49 = .ok (.goto (-18), 3) := by decide +kernel
theorem dX6_fillWithLines_52 : decode cX6_fillWithLines 52 = .ok (.iinc 2 1, 3) := by decide +kernel
theorem dX6_fillWithLines_55 : decode cX6_fillWithLines 55 = .ok (.goto (-49), 3) := by decide +kernel
theorem dX6_fillWithLines_58 : decode cX6_fillWithLines 58 = .ok (.return_, 1) := by decide +kernel
theorem dX6_fillWithNumbers_0 : decode cX6_fillWithNumbers 0 = .ok (.aload_n 0, 1) := by decide +kernel
theorem dX6_fillWithNumbers_1 : decode cX6_fillWithNumbers 1 = .ok (.invokevirtual 25, 3) := by decide +kernel
theorem dX6_fillWithNumbers_4 : decode cX6_fillWithNumbers 4 = .ok (.iconst 0, 1) := by decide +kernel
theorem dX6_fillWithNumbers_5 : decode cX6_fillWithNumbers 5 = .ok (.istore_n 3, 1) := by decide +kernel
theorem dX6_fillWithNumbers_6 : decode cX6_fillWithNumbers 6 = .ok (.iload_n 3, 1) := by decide +kernel
theorem dX6_fillWithNumbers_7 : decode cX6_fillWithNumbers 7 = .ok (.aload_n 1, 1) := by decide +kernel
theorem dX6_fillWithNumbers_8 : decode cX6_fillWithNumbers 8 = .ok (.invokevirtual 28, 3) := by decide +kernel
theorem dX6_fillWithNumbers_11 : decode cX6_fillWithNumbers 11 = .ok (.if_icmp .ge 73, 3) := by decide +kernel
theorem dX6_fillWithNumbers_14 : decode cX6_fillWithNumbers 14 = .ok (.aload_n 1, 1) := by decide +kernel
theorem dX6_fillWithNumbers_15 : decode cX6_fillWithNumbers 15 = .ok (.iload_n 3, 1) := by decide +kernel
theorem dX6_fillWithNumbers_16 : decode cX6_fillWithNumbers 16 = .ok (.invokevirtual 34, 3) := by decide +kernel
theorem dX6_fillWithNumbers_19 : decode cX6_fillWithNumbers 19 = .ok (.ifCond .eq 59, 3) := by decide +kernel
theorem dX6_fillWithNumbers_22 : decode cX6_fillWithNumbers 22 = .ok (.aload_n 2, 1) := by decide +kernel
theorem dX6_fillWithNumbers_23 : decode cX6_fillWithNumbers 23 = .ok (.iload_n 3, 1) := by decide +kernel
theorem dX6_fillWithNumbers_24 : decode cX6_fillWithNumbers 24 = .ok (.invokevirtual 34, 3) := by decide +kernel
theorem dX6_fillWithNumbers_27 : decode cX6_fillWithNumbers 27 = .ok (.ifCond .ne 6, 3) := by decide +kernel
theorem dX6_fillWithNumbers_30 : decode cX6_fillWithNumbers 30 = .ok (.goto 48, 3) := by decide +kernel
theorem dX6_fillWithNumbers_33 : decode cX6_fillWithNumbers 33 = .ok (.aload_n 1, 1) := by decide +kernel
theorem dX6_fillWithNumbers_34 : decode cX6_fillWithNumbers 34 = .ok (.iload_n 3, 1) := by decide +kernel
theorem dX6_fillWithNumbers_35 : decode cX6_fillWithNumbers 35 = .ok (.invokevirtual 37, 3) := by decide +kernel
theorem dX6_fillWithNumbers_38 : decode cX6_fillWithNumbers 38 = .ok (.istore 4, 2) := by decide +kernel
theorem dX6_fillWithNumbers_40 : decode cX6_fillWithNumbers 40 = .ok (.iload 4, 2) := by decide +kernel
theorem dX6_fillWithNumbers_42 : decode cX6_fillWithNumbers 42 = .ok (.aload_n 1, 1) := by decide +kernel
theorem dX6_fillWithNumbers_43 : decode cX6_fillWithNumbers 43 = .ok (.iload_n 3, 1) := by decide +kernel
theorem dX6_fillWithNumbers_44 : decode cX6_fillWithNumbers 44 = .ok (.invokevirtual 41, 3) := by decide +kernel
theorem dX6_fillWithNumbers_47 : decode cX6_fillWithNumbers 47 = .ok (.if_icmp .gt 31, 3) := by decide +kernel
theorem dX6_fillWithNumbers_50 : decode cX6_fillWithNumbers 50 = .ok (.aload_n 0, 1) := by decide +kernel
theorem dX6_fillWithNumbers_51 : decode cX6_fillWithNumbers 51 = .ok (.iload 4, 2) := by decide +kernel
theorem dX6_fillWithNumbers_53 : decode cX6_fillWithNumbers 53 = .ok (.aload_n 2, 1) := by decide +kernel
theorem dX6_fillWithNumbers_54 : decode cX6_fillWithNumbers 54 = .ok (.iload_n 3, 1) := by decide +kernel
theorem dX6_fillWithNumbers_55 : decode cX6_fillWithNumbers 55 = .ok (.invokevirtual 37, 3) := by decide +kernel
theorem dX6_fillWithNumbers_58 : decode cX6_fillWithNumbers 58 = .ok (.invokevirtual 44, 3) := by decide +kernel
theorem dX6_fillWithNumbers_61 : decode cX6_fillWithNumbers 61 = .ok (.aload_n 0, 1) := by decide +kernel
theorem dX6_fillWithNumbers_62 : decode cX6_fillWithNumbers 62 = .ok (.iload 4, 2) := by decide +kernel
theorem dX6_fillWithNumbers_64 : decode cX6_fillWithNumbers 64 = .ok (.aload_n 2, 1) := by decide +kernel
theorem dX6_fillWithNumbers_65 : decode cX6_fillWithNumbers 65 = .ok (.iload_n 3, 1) := by decide +kernel
theorem dX6_fillWithNumbers_66 : decode cX6_fillWithNumbers 66 = .ok (.invokevirtual 41, 3) := by decide +kernel
theorem dX6_fillWithNumbers_69 : decode cX6_fillWithNumbers 69 = .ok (.invokevirtual 44, 3) := by decide +kernel
theorem dX6_fillWithNumbers_72 : decode cX6_fillWithNumbers 72 = .ok (.iinc 4 1, 3) := by decide +kernel
theorem dX6_fillWithNumbers_75 : decode cX6_fillWithNumbers 75 = .ok (.goto (-35), 3) := by decide +kernel
theorem dX6_fillWithNumbers_78 : decode cX6_fillWithNumbers 78 = .ok (.iinc 3 1, 3) := by decide +kernel
theorem dX6_fillWithNumbers_81 : decode cX6_fillWithNumbers 81 = .ok (.goto (-75), 3) := by decide +kernel
theorem dX6_fillWithNumbers_84 : decode cX6_fillWithNumbers 84 = .ok (.return_, 1) := by decide +kernel
theorem dX6_putSpan_0 : decode cX6_putSpan 0 = .ok (.aload_n 2, 1) := by decide +kernel
theorem dX6_putSpan_1 : decode cX6_putSpan 1 = .ok (.iload_n 3, 1) := by decide +kernel
theorem dX6_putSpan_2 : decode cX6_putSpan 2 = .ok (.invokevirtual 52, 3) := by decide +kernel
theorem dX6_putSpan_5 : decode cX6_putSpan 5 = .ok (.ifCond .ne 4, 3) := by decide +kernel
theorem dX6_putSpan_8 : decode cX6_putSpan 8 = .ok (.return_, 1) := by decide +kernel
theorem dX6_putSpan_9 : decode cX6_putSpan 9 = .ok (.aload_n 0, 1) := by decide +kernel
theorem dX6_putSpan_10 : decode cX6_putSpan 10 = .ok (.iload_n 1, 1) := by decide +kernel
theorem dX6_putSpan_11 : decode cX6_putSpan 11 = .ok (.aload_n 2, 1) := by decide +kernel
theorem dX6_putSpan_12 : decode cX6_putSpan 12 = .ok (.getfield 15, 3) := by decide +kernel
theorem dX6_putSpan_15 : decode cX6_putSpan 15 = .ok (.iload_n 3, 1) := by decide +kernel
theorem dX6_putSpan_16 : decode cX6_putSpan 16 = .ok (.iaload, 1) := by decide +kernel
theorem dX6_putSpan_17 : decode cX6_putSpan 17 = .ok (.invokevirtual 44, 3) := by decide +kernel
theorem dX6_putSpan_20 : decode cX6_putSpan 20 = .ok (.aload_n 0, 1) := by decide +kernel
theorem dX6_putSpan_21 : decode cX6_putSpan 21 = .ok (.iload_n 1, 1) := by decide +kernel
theorem dX6_putSpan_22 : decode cX6_putSpan 22 = .ok (.aload_n 2, 1) := by decide +kernel
theorem dX6_putSpan_23 : decode cX6_putSpan 23 = .ok (.getfield 18, 3) := by decide +kernel
theorem dX6_putSpan_26 : decode cX6_putSpan 26 = .ok (.iload_n 3, 1) := by decide +kernel
theorem dX6_putSpan_27 : decode cX6_putSpan 27 = .ok (.iaload, 1) := by decide +kernel
theorem dX6_putSpan_28 : decode cX6_putSpan 28 = .ok (.invokevirtual 44, 3) := by decide +kernel
theorem dX6_putSpan_31 : decode cX6_putSpan 31 = .ok (.return_, 1) := by decide +kernel
theorem dX6_fillThrough_0 : decode cX6_fillThrough 0 = .ok (.aload_n 0, 1) := by decide +kernel
theorem dX6_fillThrough_1 : decode cX6_fillThrough 1 = .ok (.invokevirtual 25, 3) := by decide +kernel
theorem dX6_fillThrough_4 : decode cX6_fillThrough 4 = .ok (.iconst 0, 1) := by decide +kernel
theorem dX6_fillThrough_5 : decode cX6_fillThrough 5 = .ok (.istore 4, 2) := by decide +kernel
theorem dX6_fillThrough_7 : decode cX6_fillThrough 7 = .ok (.iload 4, 2) := by decide +kernel
theorem dX6_fillThrough_9 : decode cX6_fillThrough 9 = .ok (.aload_n 1, 1) := by decide +kernel
theorem dX6_fillThrough_10 : decode cX6_fillThrough 10 = .ok (.invokevirtual 28, 3) := by decide +kernel
theorem dX6_fillThrough_13 : decode cX6_fillThrough 13 = .ok (.if_icmp .ge 81, 3) := by decide +kernel
theorem dX6_fillThrough_16 : decode cX6_fillThrough 16 = .ok (.aload_n 1, 1) := by decide +kernel
theorem dX6_fillThrough_17 : decode cX6_fillThrough 17 = .ok (.iload 4, 2) := by decide +kernel
theorem dX6_fillThrough_19 : decode cX6_fillThrough 19 = .ok (.invokevirtual 34, 3) := by decide +kernel
theorem dX6_fillThrough_22 : decode cX6_fillThrough 22 = .ok (.ifCond .eq 66, 3) := by decide +kernel
theorem dX6_fillThrough_25 : decode cX6_fillThrough 25 = .ok (.aload_n 2, 1) := by decide +kernel
theorem dX6_fillThrough_26 : decode cX6_fillThrough 26 = .ok (.iload 4, 2) := by decide +kernel
theorem dX6_fillThrough_28 : decode cX6_fillThrough 28 = .ok (.invokevirtual 34, 3) := by decide +kernel
theorem dX6_fillThrough_31 : decode cX6_fillThrough 31 = .ok (.ifCond .ne 6, 3) := by decide +kernel
theorem dX6_fillThrough_34 : decode cX6_fillThrough 34 = .ok (.goto 54, 3) := by decide +kernel
theorem dX6_fillThrough_37 : decode cX6_fillThrough 37 = .ok (.aload_n 1, 1) := by decide +kernel
theorem dX6_fillThrough_38 : decode cX6_fillThrough 38 = .ok (.iload 4, 2) := by decide +kernel
theorem dX6_fillThrough_40 : decode cX6_fillThrough 40 = .ok (.invokevirtual 37, 3) := by decide +kernel
theorem dX6_fillThrough_43 : decode cX6_fillThrough 43 = .ok (.istore 5, 2) := by decide +kernel
theorem dX6_fillThrough_45 : decode cX6_fillThrough 45 = .ok (.iload 5, 2) := by decide +kernel
theorem dX6_fillThrough_47 : decode cX6_fillThrough 47 = .ok (.aload_n 1, 1) := by decide +kernel
theorem dX6_fillThrough_48 : decode cX6_fillThrough 48 = .ok (.iload 4, 2) := by decide +kernel
theorem dX6_fillThrough_50 : decode cX6_fillThrough 50 = .ok (.invokevirtual 41, 3) := by decide +kernel
theorem dX6_fillThrough_53 : decode cX6_fillThrough 53 = .ok (.if_icmp .gt 35, 3) := by decide +kernel
theorem dX6_fillThrough_56 : decode cX6_fillThrough 56 = .ok (.aload_n 0, 1) := by decide +kernel
theorem dX6_fillThrough_57 : decode cX6_fillThrough 57 = .ok (.iload 5, 2) := by decide +kernel
theorem dX6_fillThrough_59 : decode cX6_fillThrough 59 = .ok (.aload_n 3, 1) := by decide +kernel
theorem dX6_fillThrough_60 : decode cX6_fillThrough 60 = .ok (.aload_n 2, 1) := by decide +kernel
theorem dX6_fillThrough_61 : decode cX6_fillThrough 61 = .ok (.iload 4, 2) := by decide +kernel
theorem dX6_fillThrough_63 : decode cX6_fillThrough 63 = .ok (.invokevirtual 37, 3) := by decide +kernel
theorem dX6_fillThrough_66 : decode cX6_fillThrough 66 = .ok (.invokevirtual 48, 3) := by decide +kernel
theorem dX6_fillThrough_69 : decode cX6_fillThrough 69 = .ok (.aload_n 0, 1) := by decide +kernel
theorem dX6_fillThrough_70 : decode cX6_fillThrough 70 = .ok (.iload 5, 2) := by decide +kernel
theorem dX6_fillThrough_72 : decode cX6_fillThrough 72 = .ok (.aload_n 3, 1) := by decide +kernel
theorem dX6_fillThrough_73 : decode cX6_fillThrough 73 = .ok (.aload_n 2, 1) := by decide +kernel
theorem dX6_fillThrough_74 : decode cX6_fillThrough 74 = .ok (.iload 4, 2) := by decide +kernel
theorem dX6_fillThrough_76 : decode cX6_fillThrough 76 = .ok (.invokevirtual 41, 3) := by decide +kernel
theorem dX6_fillThrough_79 : decode cX6_fillThrough 79 = .ok (.invokevirtual 48, 3) := by decide +kernel
theorem dX6_fillThrough_82 : decode cX6_fillThrough 82 = .ok (.iinc 5 1, 3) := by decide +kernel
theorem dX6_fillThrough_85 : decode cX6_fillThrough 85 = .ok (.goto (-40), 3) := by decide +kernel
theorem dX6_fillThrough_88 : decode cX6_fillThrough 88 = .ok (.iinc 4 1, 3) := by decide +kernel
theorem dX6_fillThrough_91 : decode cX6_fillThrough 91 = .ok (.goto (-84), 3) := by decide +kernel
theorem dX6_fillThrough_94 : decode cX6_fillThrough 94 = .ok (.return_, 1) := by decide +kernel
theorem dX6_numbers_0 : decode cX6_numbers 0 = .ok (.iconst 0, 1) := by decide +kernel
theorem dX6_numbers_1 : decode cX6_numbers 1 = .ok (.istore_n 1, 1) := by decide +kernel
theorem dX6_numbers_2 : decode cX6_numbers 2 = .ok (.iconst 1, 1) := by decide +kernel
theorem dX6_numbers_3 : decode cX6_numbers 3 = .ok (.istore_n 2, 1) := by decide +kernel
theorem dX6_numbers_4 : decode cX6_numbers 4 = .ok (.iload_n 2, 1) := by decide +kernel
theorem dX6_numbers_5 : decode cX6_numbers 5 = .ok (.sipush 999, 3) := by decide +kernel
theorem dX6_numbers_8 : decode cX6_numbers 8 = .ok (.if_icmp .gt 20, 3) := by decide +kernel
theorem dX6_numbers_11 : decode cX6_numbers 11 = .ok (.aload_n 0, 1) := by decide +kernel
theorem dX6_numbers_12 : decode cX6_numbers 12 = .ok (.iload_n 2, 1) := by decide +kernel
theorem dX6_numbers_13 : decode cX6_numbers 13 = .ok (.invokevirtual 52, 3) := by decide +kernel
theorem dX6_numbers_16 : decode cX6_numbers 16 = .ok (.ifCond .eq 6, 3) := by decide +kernel
theorem dX6_numbers_19 : decode cX6_numbers 19 = .ok (.iinc 1 1, 3) := by decide +kernel
theorem dX6_numbers_22 : decode cX6_numbers 22 = .ok (.iinc 2 1, 3) := by decide +kernel
theorem dX6_numbers_25 : decode cX6_numbers 25 = .ok (.goto (-21), 3) := by decide +kernel
theorem dX6_numbers_28 : decode cX6_numbers 28 = .ok (.iload_n 1, 1) := by decide +kernel
theorem dX6_numbers_29 : decode cX6_numbers 29 = .ok (.ireturn, 1) := by decide +kernel
theorem dX6_ofSeveral_0 : decode cX6_ofSeveral 0 = .ok (.iconst 0, 1) := by decide +kernel
theorem dX6_ofSeveral_1 : decode cX6_ofSeveral 1 = .ok (.istore_n 1, 1) := by decide +kernel
theorem dX6_ofSeveral_2 : decode cX6_ofSeveral 2 = .ok (.iconst 1, 1) := by decide +kernel
theorem dX6_ofSeveral_3 : decode cX6_ofSeveral 3 = .ok (.istore_n 2, 1) := by decide +kernel
theorem dX6_ofSeveral_4 : decode cX6_ofSeveral 4 = .ok (.iload_n 2, 1) := by decide +kernel
theorem dX6_ofSeveral_5 : decode cX6_ofSeveral 5 = .ok (.sipush 999, 3) := by decide +kernel
theorem dX6_ofSeveral_8 : decode cX6_ofSeveral 8 = .ok (.if_icmp .gt 30, 3) := by decide +kernel
theorem dX6_ofSeveral_11 : decode cX6_ofSeveral 11 = .ok (.aload_n 0, 1) := by decide +kernel
theorem dX6_ofSeveral_12 : decode cX6_ofSeveral 12 = .ok (.iload_n 2, 1) := by decide +kernel
theorem dX6_ofSeveral_13 : decode cX6_ofSeveral 13 = .ok (.invokevirtual 52, 3) := by decide +kernel
theorem dX6_ofSeveral_16 : decode cX6_ofSeveral 16 = .ok (.ifCond .eq 16, 3) := by decide +kernel
theorem dX6_ofSeveral_19 : decode cX6_ofSeveral 19 = .ok (.aload_n 0, 1) := by decide +kernel
theorem dX6_ofSeveral_20 : decode cX6_ofSeveral 20 = .ok (.getfield 9, 3) := by decide +kernel
theorem dX6_ofSeveral_23 : decode cX6_ofSeveral 23 = .ok (.iload_n 2, 1) := by decide +kernel
theorem dX6_ofSeveral_24 : decode cX6_ofSeveral 24 = .ok (.iaload, 1) := by decide +kernel
theorem dX6_ofSeveral_25 : decode cX6_ofSeveral 25 = .ok (.iconst 1, 1) := by decide +kernel
theorem dX6_ofSeveral_26 : decode cX6_ofSeveral 26 = .ok (.if_icmp .le 6, 3) := by decide +kernel
theorem dX6_ofSeveral_29 : decode cX6_ofSeveral 29 = .ok (.iinc 1 1, 3) := by decide +kernel
theorem dX6_ofSeveral_32 : decode cX6_ofSeveral 32 = .ok (.iinc 2 1, 3) := by decide +kernel
theorem dX6_ofSeveral_35 : decode cX6_ofSeveral 35 = .ok (.goto (-31), 3) := by decide +kernel
theorem dX6_ofSeveral_38 : decode cX6_ofSeveral 38 = .ok (.iload_n 1, 1) := by decide +kernel
theorem dX6_ofSeveral_39 : decode cX6_ofSeveral 39 = .ok (.ireturn, 1) := by decide +kernel
theorem dX6_scattered_0 : decode cX6_scattered 0 = .ok (.iconst 0, 1) := by decide +kernel
theorem dX6_scattered_1 : decode cX6_scattered 1 = .ok (.istore_n 1, 1) := by decide +kernel
theorem dX6_scattered_2 : decode cX6_scattered 2 = .ok (.iconst 1, 1) := by decide +kernel
theorem dX6_scattered_3 : decode cX6_scattered 3 = .ok (.istore_n 2, 1) := by decide +kernel
theorem dX6_scattered_4 : decode cX6_scattered 4 = .ok (.iload_n 2, 1) := by decide +kernel
theorem dX6_scattered_5 : decode cX6_scattered 5 = .ok (.sipush 999, 3) := by decide +kernel
theorem dX6_scattered_8 : decode cX6_scattered 8 = .ok (.if_icmp .gt 44, 3) := by decide +kernel
theorem dX6_scattered_11 : decode cX6_scattered 11 = .ok (.aload_n 0, 1) := by decide +kernel
theorem dX6_scattered_12 : decode cX6_scattered 12 = .ok (.iload_n 2, 1) := by decide +kernel
theorem dX6_scattered_13 : decode cX6_scattered 13 = .ok (.invokevirtual 52, 3) := by decide +kernel
theorem dX6_scattered_16 : decode cX6_scattered 16 = .ok (.ifCond .eq 30, 3) := by decide +kernel
theorem dX6_scattered_19 : decode cX6_scattered 19 = .ok (.aload_n 0, 1) := by decide +kernel
theorem dX6_scattered_20 : decode cX6_scattered 20 = .ok (.getfield 18, 3) := by decide +kernel
theorem dX6_scattered_23 : decode cX6_scattered 23 = .ok (.iload_n 2, 1) := by decide +kernel
theorem dX6_scattered_24 : decode cX6_scattered 24 = .ok (.iaload, 1) := by decide +kernel
theorem dX6_scattered_25 : decode cX6_scattered 25 = .ok (.aload_n 0, 1) := by decide +kernel
theorem dX6_scattered_26 : decode cX6_scattered 26 = .ok (.getfield 15, 3) := by decide +kernel
theorem dX6_scattered_29 : decode cX6_scattered 29 = .ok (.iload_n 2, 1) := by decide +kernel
theorem dX6_scattered_30 : decode cX6_scattered 30 = .ok (.iaload, 1) := by decide +kernel
theorem dX6_scattered_31 : decode cX6_scattered 31 = .ok (.isub, 1) := by decide +kernel
theorem dX6_scattered_32 : decode cX6_scattered 32 = .ok (.iconst 1, 1) := by decide +kernel
theorem dX6_scattered_33 : decode cX6_scattered 33 = .ok (.iadd, 1) := by decide +kernel
theorem dX6_scattered_34 : decode cX6_scattered 34 = .ok (.aload_n 0, 1) := by decide +kernel
theorem dX6_scattered_35 : decode cX6_scattered 35 = .ok (.getfield 9, 3) := by decide +kernel
theorem dX6_scattered_38 : decode cX6_scattered 38 = .ok (.iload_n 2, 1) := by decide +kernel
theorem dX6_scattered_39 : decode cX6_scattered 39 = .ok (.iaload, 1) := by decide +kernel
theorem dX6_scattered_40 : decode cX6_scattered 40 = .ok (.if_icmp .eq 6, 3) := by decide +kernel
theorem dX6_scattered_43 : decode cX6_scattered 43 = .ok (.iinc 1 1, 3) := by decide +kernel
theorem dX6_scattered_46 : decode cX6_scattered 46 = .ok (.iinc 2 1, 3) := by decide +kernel
theorem dX6_scattered_49 : decode cX6_scattered 49 = .ok (.goto (-45), 3) := by decide +kernel
theorem dX6_scattered_52 : decode cX6_scattered 52 = .ok (.iload_n 1, 1) := by decide +kernel
theorem dX6_scattered_53 : decode cX6_scattered 53 = .ok (.ireturn, 1) := by decide +kernel
theorem dX6_ofDoubt_0 : decode cX6_ofDoubt 0 = .ok (.iconst 0, 1) := by decide +kernel
theorem dX6_ofDoubt_1 : decode cX6_ofDoubt 1 = .ok (.istore_n 2, 1) := by decide +kernel
theorem dX6_ofDoubt_2 : decode cX6_ofDoubt 2 = .ok (.iconst 1, 1) := by decide +kernel
theorem dX6_ofDoubt_3 : decode cX6_ofDoubt 3 = .ok (.istore_n 3, 1) := by decide +kernel
theorem dX6_ofDoubt_4 : decode cX6_ofDoubt 4 = .ok (.iload_n 3, 1) := by decide +kernel
theorem dX6_ofDoubt_5 : decode cX6_ofDoubt 5 = .ok (.sipush 999, 3) := by decide +kernel
theorem dX6_ofDoubt_8 : decode cX6_ofDoubt 8 = .ok (.if_icmp .gt 44, 3) := by decide +kernel
theorem dX6_ofDoubt_11 : decode cX6_ofDoubt 11 = .ok (.aload_n 0, 1) := by decide +kernel
theorem dX6_ofDoubt_12 : decode cX6_ofDoubt 12 = .ok (.iload_n 3, 1) := by decide +kernel
theorem dX6_ofDoubt_13 : decode cX6_ofDoubt 13 = .ok (.invokevirtual 52, 3) := by decide +kernel
theorem dX6_ofDoubt_16 : decode cX6_ofDoubt 16 = .ok (.ifCond .eq 30, 3) := by decide +kernel
theorem dX6_ofDoubt_19 : decode cX6_ofDoubt 19 = .ok (.aload_n 0, 1) := by decide +kernel
theorem dX6_ofDoubt_20 : decode cX6_ofDoubt 20 = .ok (.getfield 15, 3) := by decide +kernel
theorem dX6_ofDoubt_23 : decode cX6_ofDoubt 23 = .ok (.iload_n 3, 1) := by decide +kernel
theorem dX6_ofDoubt_24 : decode cX6_ofDoubt 24 = .ok (.iaload, 1) := by decide +kernel
theorem dX6_ofDoubt_25 : decode cX6_ofDoubt 25 = .ok (.aload_n 0, 1) := by decide +kernel
theorem dX6_ofDoubt_26 : decode cX6_ofDoubt 26 = .ok (.getfield 18, 3) := by decide +kernel
theorem dX6_ofDoubt_29 : decode cX6_ofDoubt 29 = .ok (.iload_n 3, 1) := by decide +kernel
theorem dX6_ofDoubt_30 : decode cX6_ofDoubt 30 = .ok (.iaload, 1) := by decide +kernel
theorem dX6_ofDoubt_31 : decode cX6_ofDoubt 31 = .ok (.if_icmp .ne 7, 3) := by decide +kernel
theorem dX6_ofDoubt_34 : decode cX6_ofDoubt 34 = .ok (.iconst 1, 1) := by decide +kernel
theorem dX6_ofDoubt_35 : decode cX6_ofDoubt 35 = .ok (.goto 4, 3) := by decide +kernel
theorem dX6_ofDoubt_38 : decode cX6_ofDoubt 38 = .ok (.iconst 2, 1) := by decide +kernel
theorem dX6_ofDoubt_39 : decode cX6_ofDoubt 39 = .ok (.iload_n 1, 1) := by decide +kernel
theorem dX6_ofDoubt_40 : decode cX6_ofDoubt 40 = .ok (.if_icmp .ne 6, 3) := by decide +kernel
theorem dX6_ofDoubt_43 : decode cX6_ofDoubt 43 = .ok (.iinc 2 1, 3) := by decide +kernel
theorem dX6_ofDoubt_46 : decode cX6_ofDoubt 46 = .ok (.iinc 3 1, 3) := by decide +kernel
theorem dX6_ofDoubt_49 : decode cX6_ofDoubt 49 = .ok (.goto (-45), 3) := by decide +kernel
theorem dX6_ofDoubt_52 : decode cX6_ofDoubt 52 = .ok (.iload_n 2, 1) := by decide +kernel
theorem dX6_ofDoubt_53 : decode cX6_ofDoubt 53 = .ok (.ireturn, 1) := by decide +kernel
theorem dX6_spanNumbers_0 : decode cX6_spanNumbers 0 = .ok (.aload_n 1, 1) := by decide +kernel
theorem dX6_spanNumbers_1 : decode cX6_spanNumbers 1 = .ok (.invokevirtual 55, 3) := by decide +kernel
theorem dX6_spanNumbers_4 : decode cX6_spanNumbers 4 = .ok (.iconst 1, 1) := by decide +kernel
theorem dX6_spanNumbers_5 : decode cX6_spanNumbers 5 = .ok (.istore_n 2, 1) := by decide +kernel
theorem dX6_spanNumbers_6 : decode cX6_spanNumbers 6 = .ok (.iload_n 2, 1) := by decide +kernel
theorem dX6_spanNumbers_7 : decode cX6_spanNumbers 7 = .ok (.sipush 999, 3) := by decide +kernel
theorem dX6_spanNumbers_10 : decode cX6_spanNumbers 10 = .ok (.if_icmp .gt 22, 3) := by decide +kernel
theorem dX6_spanNumbers_13 : decode cX6_spanNumbers 13 = .ok (.aload_n 0, 1) := by decide +kernel
theorem dX6_spanNumbers_14 : decode cX6_spanNumbers 14 = .ok (.iload_n 2, 1) := by decide +kernel
theorem dX6_spanNumbers_15 : decode cX6_spanNumbers 15 = .ok (.invokevirtual 52, 3) := by decide +kernel
theorem dX6_spanNumbers_18 : decode cX6_spanNumbers 18 = .ok (.ifCond .eq 8, 3) := by decide +kernel
theorem dX6_spanNumbers_21 : decode cX6_spanNumbers 21 = .ok (.aload_n 1, 1) := by decide +kernel
theorem dX6_spanNumbers_22 : decode cX6_spanNumbers 22 = .ok (.iload_n 2, 1) := by decide +kernel
theorem dX6_spanNumbers_23 : decode cX6_spanNumbers 23 = .ok (.invokevirtual 58, 3) := by decide +kernel
theorem dX6_spanNumbers_26 : decode cX6_spanNumbers 26 = .ok (.iinc 2 1, 3) := by decide +kernel
theorem dX6_spanNumbers_29 : decode cX6_spanNumbers 29 = .ok (.goto (-23), 3) := by decide +kernel
theorem dX6_spanNumbers_32 : decode cX6_spanNumbers 32 = .ok (.return_, 1) := by decide +kernel
def w_X6_isPlace : List Cond := .code yX6_isPlace cX6_isPlace 2 (some .boolean) :: ([.fieldLink RX6 9 "LineCites$Spans" "sizes" "[I", .fieldLink RX6 15 "LineCites$Spans" "leasts" "[I", .fieldLink RX6 18 "LineCites$Spans" "greatests" "[I"] ++ wsX60)
set_option maxHeartbeats 4000000 in
set_option maxRecDepth 100000 in
theorem c_X6_isPlace (l : Launch) (D : va_G) (h0 : Nat) (i_n : Int32) (u_z : Nat) (u_l : Nat) (u_g : Nat) (u_at : Int32) (u_sf : Int32) (u_sm : Int32) (u_sl : Int32) (u_sh : Int32) (kI : ClassId) (g_u_z : Nat → Int32) (g_u_l : Nat → Int32) (g_u_g : Nat → Int32) : Met l yX6_isPlace w_X6_isPlace ({ frames := 0, cells := 0, slots := 0, locals := 0 }) (va_Pc [.ref h0, .int i_n] (fun U => va_P D vwCl [(h0, .inr (6, [.ref u_z, .ref u_l, .ref u_g, .int u_at, .int u_sf, .int u_sm, .int u_sl, .int u_sh])), (u_z, .inl (kI, 1000, .inl g_u_z)), (u_l, .inl (kI, 1000, .inl g_u_l)), (u_g, .inl (kI, 1000, .inl g_u_g))] U.heap ∧ va_K D vwCl [(kI, .int)] U)) (va_Qi (fun (r : Int32) (_ : Unit) => (r = 0 ∨ r = 1) ∧ (r.toInt = 0 ∨ (0 ≤ i_n.toInt ∧ i_n.toInt ≤ 999))) (fun _ _ => True) (fun _ => False)) 0 0 (fun _ => False) := by
  refine Met.ofW (cc := cX6_isPlace) (maxL := 2) (ret := (some .boolean)) (by decide) rfl ?_
  intro p e s m args below meth c s₁ B hml hv
  obtain ⟨rfl, hP, hK⟩ := hv
  have hx := B.exec
  have hb := B.bytes
  have hr := B.returns
  have hts := atoms_spec (ws := w_X6_isPlace) B.pre
  have hown : s.vm.findClass RX6 = some m.cls := findClass_of_methodNamed B.named
  have hlocks := B.notSynchronized
  have hS : va_S (fun _ : Nat => False) s.heap s.heap [] := va_S.rf
  have hP : va_P D vwCl [(h0, .inr (6, [.ref u_z, .ref u_l, .ref u_g, .int u_at, .int u_sf, .int u_sm, .int u_sl, .int u_sh])), (u_z, .inl (kI, 1000, .inl g_u_z)), (u_l, .inl (kI, 1000, .inl g_u_l)), (u_g, .inl (kI, 1000, .inl g_u_g))] s.heap := hP
  have hl := lv_entry ([.ref h0, .int i_n]) (n := 2) (Nat.le_of_ble_eq_true rfl)
  rw [lg_entry_eq]
  generalize (lg_sl ([.ref h0, .int i_n]) ++ List.replicate (2 - (lg_sl ([.ref h0, .int i_n])).length) Slot.unset).toArray = ls at hl ⊢
  have hl : lv_has ls 2 [(0, .ref h0), (1, .int i_n)] := hl
  obtain ⟨H, hHe⟩ : ∃ H : Heap, H = s.heap := ⟨_, rfl⟩
  rw [← hHe] at hP
  have hS : va_S (fun _ : Nat => False) s.heap H [] := by rw [hHe]; exact hS
  refine pw_heap hHe ?_
  refine lv_iload_n hx hb dX6_isPlace_0 rfl (lv_at hl 1 rfl) ?_
  refine lv_if_lt (tgt := 35) hx hb dX6_isPlace_1 (by decide) (fun c1 => ?_) (fun c1 => ?_)
  · have nc1 : i_n.toInt < 0 := pw_lt c1 rfl (by decide)
    refine lv_iconst (v := 0) hx hb dX6_isPlace_35 (by decide) ?_
    exact W.zret (v := 0) (ty := .boolean) hx hb hr rfl (fun t ht hW => ⟨⟨0, (), rfl, ⟨Or.inl rfl, (by have hv : (0 : Int32).toInt = 0 := (by decide); omega)⟩, trivial⟩, hS.F ht⟩) hS.2.2 dX6_isPlace_36
  · have nc1 : 0 ≤ i_n.toInt := pw_nlt c1 rfl (by decide)
    refine lv_iload_n hx hb dX6_isPlace_4 rfl (lv_at hl 1 rfl) ?_
    refine lv_aload_n hx hb dX6_isPlace_5 rfl (lv_at hl 0 rfl) ?_
    refine va_get (D := D) (ci := 6) (v := .ref u_z) (C := RX6) (T := TX6) (N := 8) hx hb hts (fun _ h => List.mem_cons_of_mem _ (List.mem_append_right _ h)) hown hK hP 0 rfl rfl 0 (by decide) (hts (.fieldLink RX6 9 "LineCites$Spans" "sizes" "[I") (List.mem_of_getElem? (i := 1) rfl)) (fun _ h9 => h9) rfl dX6_isPlace_6 ?_
    refine va_alen (v := 1000) hx hb hK hP 1 0 rfl rfl rfl dX6_isPlace_9 ?_
    refine lv_icmp_ge (tgt := 35) hx hb dX6_isPlace_10 (by decide) (fun c2 => ?_) (fun c2 => ?_)
    · have nc2 : 1000 ≤ i_n.toInt := pw_le c2 (by decide) rfl
      refine lv_iconst (v := 0) hx hb dX6_isPlace_35 (by decide) ?_
      exact W.zret (v := 0) (ty := .boolean) hx hb hr rfl (fun t ht hW => ⟨⟨0, (), rfl, ⟨Or.inl rfl, (by have hv : (0 : Int32).toInt = 0 := (by decide); omega)⟩, trivial⟩, hS.F ht⟩) hS.2.2 dX6_isPlace_36
    · have nc2 : i_n.toInt < 1000 := pw_nle c2 (by decide) rfl
      refine lv_iload_n hx hb dX6_isPlace_13 rfl (lv_at hl 1 rfl) ?_
      refine lv_aload_n hx hb dX6_isPlace_14 rfl (lv_at hl 0 rfl) ?_
      refine va_get (D := D) (ci := 6) (v := .ref u_l) (C := RX6) (T := TX6) (N := 8) hx hb hts (fun _ h => List.mem_cons_of_mem _ (List.mem_append_right _ h)) hown hK hP 0 rfl rfl 1 (by decide) (hts (.fieldLink RX6 15 "LineCites$Spans" "leasts" "[I") (List.mem_of_getElem? (i := 2) rfl)) (fun _ h9 => h9) rfl dX6_isPlace_15 ?_
      refine va_alen (v := 1000) hx hb hK hP 2 0 rfl rfl rfl dX6_isPlace_18 ?_
      refine lv_icmp_ge (tgt := 35) hx hb dX6_isPlace_19 (by decide) (fun c3 => False.elim (by have nn : 1000 ≤ i_n.toInt := pw_le c3 (by decide) rfl; omega)) (fun c3 => ?_)
      have nc3 : i_n.toInt < 1000 := pw_nle c3 (by decide) rfl
      refine lv_iload_n hx hb dX6_isPlace_22 rfl (lv_at hl 1 rfl) ?_
      refine lv_aload_n hx hb dX6_isPlace_23 rfl (lv_at hl 0 rfl) ?_
      refine va_get (D := D) (ci := 6) (v := .ref u_g) (C := RX6) (T := TX6) (N := 8) hx hb hts (fun _ h => List.mem_cons_of_mem _ (List.mem_append_right _ h)) hown hK hP 0 rfl rfl 2 (by decide) (hts (.fieldLink RX6 18 "LineCites$Spans" "greatests" "[I") (List.mem_of_getElem? (i := 3) rfl)) (fun _ h9 => h9) rfl dX6_isPlace_24 ?_
      refine va_alen (v := 1000) hx hb hK hP 3 0 rfl rfl rfl dX6_isPlace_27 ?_
      refine lv_icmp_ge (tgt := 35) hx hb dX6_isPlace_28 (by decide) (fun c4 => False.elim (by have nn : 1000 ≤ i_n.toInt := pw_le c4 (by decide) rfl; omega)) (fun c4 => ?_)
      have nc4 : i_n.toInt < 1000 := pw_nle c4 (by decide) rfl
      refine lv_iconst (v := 1) hx hb dX6_isPlace_31 (by decide) ?_
      refine lv_goto (tgt := 36) hx hb dX6_isPlace_32 (by decide) ?_
      exact W.zret (v := 1) (ty := .boolean) hx hb hr rfl (fun t ht hW => ⟨⟨1, (), rfl, ⟨Or.inr rfl, (by have hv : (1 : Int32).toInt = 1 := (by decide); omega)⟩, trivial⟩, hS.F ht⟩) hS.2.2 dX6_isPlace_36
def w_X6_clear : List Cond := .code yX6_clear cX6_clear 2 none :: ([.fieldLink RX6 9 "LineCites$Spans" "sizes" "[I"] ++ wsX60)
set_option maxHeartbeats 4000000 in
set_option maxRecDepth 100000 in
theorem c_X6_clear (l : Launch) (D : va_G) (h0 : Nat) (u_z : Nat) (u_l : Nat) (u_g : Nat) (u_at : Int32) (u_sf : Int32) (u_sm : Int32) (u_sl : Int32) (u_sh : Int32) (kI : ClassId) (g_u_z : Nat → Int32) (sz : Nat) : Met l yX6_clear w_X6_clear ({ frames := 0, cells := 0, slots := 0, locals := 0 }) (va_Pc [.ref h0] (fun U => U.heap.size = sz ∧ va_P D vwCl [(h0, .inr (6, [.ref u_z, .ref u_l, .ref u_g, .int u_at, .int u_sf, .int u_sm, .int u_sl, .int u_sh])), (u_z, .inl (kI, 1000, .inl g_u_z))] U.heap ∧ va_K D vwCl [(kI, .int)] U ∧ va_D (fun _ => True) [(h0, .inr (6, [.ref u_z, .ref u_l, .ref u_g, .int u_at, .int u_sf, .int u_sm, .int u_sl, .int u_sh])), (u_z, .inl (kI, 1000, .inl g_u_z))])) (va_Qv (fun (_ : Unit) => True) (fun (_ : Unit) t => ∃ (n_z : Nat → Int32), va_P D vwCl [(h0, .inr (6, [.ref u_z, .ref u_l, .ref u_g, .int u_at, .int u_sf, .int u_sm, .int u_sl, .int u_sh])), (u_z, .inl (kI, 1000, .inl n_z))] t.heap ∧ va_K D vwCl [(kI, .int)] t ∧ va_D (va_A [(h0, .inr (6, [.ref u_z, .ref u_l, .ref u_g, .int u_at, .int u_sf, .int u_sm, .int u_sl, .int u_sh])), (u_z, .inl (kI, 1000, .inl g_u_z))] sz) [(h0, .inr (6, [.ref u_z, .ref u_l, .ref u_g, .int u_at, .int u_sf, .int u_sm, .int u_sl, .int u_sh])), (u_z, .inl (kI, 1000, .inl n_z))]) (va_A [(h0, .inr (6, [.ref u_z, .ref u_l, .ref u_g, .int u_at, .int u_sf, .int u_sm, .int u_sl, .int u_sh])), (u_z, .inl (kI, 1000, .inl g_u_z))] sz)) 0 0 (va_A [(h0, .inr (6, [.ref u_z, .ref u_l, .ref u_g, .int u_at, .int u_sf, .int u_sm, .int u_sl, .int u_sh])), (u_z, .inl (kI, 1000, .inl g_u_z))] sz) := by
  refine Met.ofW (cc := cX6_clear) (maxL := 2) (ret := none) (by decide) rfl ?_
  intro p e s m args below meth c s₁ B hml hv
  obtain ⟨rfl, hsz, hP, hK, hD0⟩ := hv
  have hx := B.exec
  have hb := B.bytes
  have hr := B.returns
  have hts := atoms_spec (ws := w_X6_clear) B.pre
  have hown : s.vm.findClass RX6 = some m.cls := findClass_of_methodNamed B.named
  have hlocks := B.notSynchronized
  subst hsz
  have hD := hD0.self (sz := s.heap.size)
  generalize hAe : va_A [(h0, .inr (6, [.ref u_z, .ref u_l, .ref u_g, .int u_at, .int u_sf, .int u_sm, .int u_sl, .int u_sh])), (u_z, .inl (kI, 1000, .inl g_u_z))] s.heap.size = A at hD ⊢
  have hA : ∀ q : Nat, s.heap.size ≤ q → A q := fun q h => by rw [← hAe]; exact Or.inr h
  have hS : va_S A s.heap s.heap [] := va_S.rf
  have hP : va_P D vwCl [(h0, .inr (6, [.ref u_z, .ref u_l, .ref u_g, .int u_at, .int u_sf, .int u_sm, .int u_sl, .int u_sh])), (u_z, .inl (kI, 1000, .inl g_u_z))] s.heap := hP
  have hl := lv_entry ([.ref h0]) (n := 2) (Nat.le_of_ble_eq_true rfl)
  rw [lg_entry_eq]
  generalize (lg_sl ([.ref h0]) ++ List.replicate (2 - (lg_sl ([.ref h0])).length) Slot.unset).toArray = ls at hl ⊢
  have hl : lv_has ls 2 [(0, .ref h0)] := hl
  obtain ⟨H, hHe⟩ : ∃ H : Heap, H = s.heap := ⟨_, rfl⟩
  rw [← hHe] at hP
  have hS : va_S A s.heap H [] := by rw [hHe]; exact hS
  refine pw_heap hHe ?_
  refine lv_iconst (v := 0) hx hb dX6_clear_0 (by decide) ?_
  refine lv_istore_n (lv' := [(1, .int 0), (0, .ref h0)]) hx hb dX6_clear_1 rfl hl (by decide) rfl (fun ls hl => ?_)
  have hl9 : lv_has ls 2 [(0, .ref h0), (1, .int 0)] := lv_sub hl [1, 0] rfl
  refine pw_loop (fun (zz : Int32 × (Nat → Int32)) H locs ls => match zz with | (v8, f9) => va_P D vwCl [(h0, .inr (6, [.ref u_z, .ref u_l, .ref u_g, .int u_at, .int u_sf, .int u_sm, .int u_sl, .int u_sh])), (u_z, .inl (kI, 1000, .inl f9))] H ∧ va_D A [(h0, .inr (6, [.ref u_z, .ref u_l, .ref u_g, .int u_at, .int u_sf, .int u_sm, .int u_sl, .int u_sh])), (u_z, .inl (kI, 1000, .inl f9))] ∧ va_S A s.heap H locs ∧ lv_has ls 2 [(0, .ref h0), (1, .int v8)] ∧ 0 ≤ v8.toInt) (fun (zz : Int32 × (Nat → Int32))  => match zz with | (v8, f9) => (2147483648 - v8.toInt).toNat) 0 0 (fun (zz : Int32 × (Nat → Int32)) ls => match zz with | (v8, f9) => F0 m 2 ls []) (fun zz H locs ls ih10 hI => ?_) (0, g_u_z) _ _ _ ⟨hP, hD, hS, hl9, (by decide)⟩
  obtain ⟨v8, f9⟩ := zz
  obtain ⟨hP, hD, hS, hl, bv8⟩ := hI
  have bv8 : 0 ≤ v8.toInt := bv8
  have hP : va_P D vwCl [(h0, .inr (6, [.ref u_z, .ref u_l, .ref u_g, .int u_at, .int u_sf, .int u_sm, .int u_sl, .int u_sh])), (u_z, .inl (kI, 1000, .inl f9))] H := hP
  have hD : va_D A [(h0, .inr (6, [.ref u_z, .ref u_l, .ref u_g, .int u_at, .int u_sf, .int u_sm, .int u_sl, .int u_sh])), (u_z, .inl (kI, 1000, .inl f9))] := hD
  have hK : va_K D vwCl [(kI, .int)] s := hK
  have hl : lv_has ls 2 [(0, .ref h0), (1, .int v8)] := hl
  refine W.eq (g2 := F0 m 2 ls []) rfl ?_
  refine lv_iload_n hx hb dX6_clear_2 rfl (lv_at hl 1 rfl) ?_
  refine lv_aload_n hx hb dX6_clear_3 rfl (lv_at hl 0 rfl) ?_
  refine va_get (D := D) (ci := 6) (v := .ref u_z) (C := RX6) (T := TX6) (N := 8) hx hb hts (fun _ h => List.mem_cons_of_mem _ (List.mem_append_right _ h)) hown hK hP 0 rfl rfl 0 (by decide) (hts (.fieldLink RX6 9 "LineCites$Spans" "sizes" "[I") (List.mem_of_getElem? (i := 1) rfl)) (fun _ h9 => h9) rfl dX6_clear_4 ?_
  refine va_alen (v := 1000) hx hb hK hP 1 0 rfl rfl rfl dX6_clear_7 ?_
  refine lv_icmp_ge (tgt := 24) hx hb dX6_clear_8 (by decide) (fun c11 => ?_) (fun c11 => ?_)
  · have nc11 : 1000 ≤ v8.toInt := pw_le c11 (by decide) rfl
    have hP9 := hP.sub (ws' := [(h0, .inr (6, [.ref u_z, .ref u_l, .ref u_g, .int u_at, .int u_sf, .int u_sm, .int u_sl, .int u_sh])), (u_z, .inl (kI, 1000, .inl f9))]) [0, 1] rfl
    have hD9 := hD.sub (ws' := [(h0, .inr (6, [.ref u_z, .ref u_l, .ref u_g, .int u_at, .int u_sf, .int u_sm, .int u_sl, .int u_sh])), (u_z, .inl (kI, 1000, .inl f9))]) [0, 1] (by decide) rfl
    have hK9 := hK.sub (tys' := [(kI, .int)]) [0] rfl
    refine W.widen (k := 0) (n := 0) (Nat.le_of_ble_eq_true rfl) (Nat.le_of_ble_eq_true rfl) ?_
    exact W.vret hx hb hr (fun t ht hW => ⟨⟨(), rfl, trivial, f9, by rw [ht]; exact hP9, va_K.moved hW.alike hK9, hD9⟩, hS.F ht⟩) hS.2.2 dX6_clear_24
  · have nc11 : v8.toInt < 1000 := pw_nle c11 (by decide) rfl
    refine lv_aload_n hx hb dX6_clear_11 rfl (lv_at hl 0 rfl) ?_
    refine va_get (D := D) (ci := 6) (v := .ref u_z) (C := RX6) (T := TX6) (N := 8) hx hb hts (fun _ h => List.mem_cons_of_mem _ (List.mem_append_right _ h)) hown hK hP 0 rfl rfl 0 (by decide) (hts (.fieldLink RX6 9 "LineCites$Spans" "sizes" "[I") (List.mem_of_getElem? (i := 1) rfl)) (fun _ h9 => h9) rfl dX6_clear_12 ?_
    refine lv_iload_n hx hb dX6_clear_15 rfl (lv_at hl 1 rfl) ?_
    refine lv_iconst (v := 0) hx hb dX6_clear_16 (by decide) ?_
    refine va_iast hx hb hK hP hD hS 1 0 rfl rfl (vp_in_iff.mpr ⟨by omega, by omega⟩) dX6_clear_17 (fun H locs hP hD hS => ?_)
    obtain ⟨g12, eg12⟩ : ∃ g : Nat → Int32, g = upd f9 (v8 : Int32).toNatClampNeg 0 := ⟨_, rfl⟩
    have hP : va_P D vwCl [(h0, .inr (6, [.ref u_z, .ref u_l, .ref u_g, .int u_at, .int u_sf, .int u_sm, .int u_sl, .int u_sh])), (u_z, .inl (kI, 1000, .inl (upd f9 (v8 : Int32).toNatClampNeg 0)))] H := hP
    have hD : va_D A [(h0, .inr (6, [.ref u_z, .ref u_l, .ref u_g, .int u_at, .int u_sf, .int u_sm, .int u_sl, .int u_sh])), (u_z, .inl (kI, 1000, .inl (upd f9 (v8 : Int32).toNatClampNeg 0)))] := hD
    have hK : va_K D vwCl [(kI, .int)] s := hK
    rw [← eg12] at hP hD
    obtain ⟨x13, ex13⟩ : ∃ y : Int32, y = v8 + 1 := ⟨_, rfl⟩
    have tx13 : x13.toInt = v8.toInt + 1 := pw_addX ex13 rfl (by decide) (by omega) (by omega)
    refine lv_iinc (v := x13) (lv' := [(1, .int x13), (0, .ref h0)]) hx hb dX6_clear_18 hl (k := 1) rfl (by rw [ex13]; rfl) (by decide) rfl (fun ls hl => ?_)
    refine lv_goto (tgt := 2) hx hb dX6_clear_21 (by decide) ?_
    have hP9 : va_P D vwCl [(h0, .inr (6, [.ref u_z, .ref u_l, .ref u_g, .int u_at, .int u_sf, .int u_sm, .int u_sl, .int u_sh])), (u_z, .inl (kI, 1000, .inl g12))] H := hP.sub [0, 1] rfl
    have hD9 : va_D A [(h0, .inr (6, [.ref u_z, .ref u_l, .ref u_g, .int u_at, .int u_sf, .int u_sm, .int u_sl, .int u_sh])), (u_z, .inl (kI, 1000, .inl g12))] := hD.sub [0, 1] (by decide) rfl
    have hl9 : lv_has ls 2 [(0, .ref h0), (1, .int x13)] := lv_sub hl [1, 0] rfl
    refine W.widen (k := 0) (n := 0) (Nat.le_of_ble_eq_true rfl) (Nat.le_of_ble_eq_true rfl) ?_
    exact ih10 (x13, g12) _ _ _ (pw_up ex13 (by omega)) ⟨hP9, hD9, hS, hl9, (pw_upge ex13 (by omega) (by omega))⟩
def w_X6_put : List Cond := .code yX6_put cX6_put 3 none :: ([.methodLink RX6 21 yX6_isPlace, .instanceMethod yX6_isPlace, .selects RX6 yX6_isPlace yX6_isPlace, .initialized RX6, .code yX6_isPlace cX6_isPlace 2 (some .boolean), .fieldLink RX6 9 "LineCites$Spans" "sizes" "[I", .fieldLink RX6 15 "LineCites$Spans" "leasts" "[I", .fieldLink RX6 18 "LineCites$Spans" "greatests" "[I"] ++ wsX60)
set_option maxRecDepth 20000 in
theorem g_X6_put_X6_isPlace : GoodIn w_X6_put (wsV RX6 21 RX6 yX6_isPlace w_X6_isPlace) := goodIn_r _ [1, 2, 3, 4, 5, 6, 7, 8, 9, 10, 11, 12, 13, 14, 15, 16] rfl (by decide +kernel)
set_option maxHeartbeats 4000000 in
set_option maxRecDepth 100000 in
theorem c_X6_put (l : Launch) (D : va_G) (h0 : Nat) (i_n : Int32) (i_v : Int32) (u_z : Nat) (u_l : Nat) (u_g : Nat) (u_at : Int32) (u_sf : Int32) (u_sm : Int32) (u_sl : Int32) (u_sh : Int32) (kI : ClassId) (g_u_z : Nat → Int32) (g_u_l : Nat → Int32) (g_u_g : Nat → Int32) (sz : Nat) : Met l yX6_put w_X6_put ({ frames := 1, cells := 0, slots := 0, locals := 21 }) (va_Pc [.ref h0, .int i_n, .int i_v] (fun U => U.heap.size = sz ∧ va_P D vwCl [(h0, .inr (6, [.ref u_z, .ref u_l, .ref u_g, .int u_at, .int u_sf, .int u_sm, .int u_sl, .int u_sh])), (u_z, .inl (kI, 1000, .inl g_u_z)), (u_l, .inl (kI, 1000, .inl g_u_l)), (u_g, .inl (kI, 1000, .inl g_u_g))] U.heap ∧ va_K D vwCl [(kI, .int)] U ∧ va_D (fun _ => True) [(h0, .inr (6, [.ref u_z, .ref u_l, .ref u_g, .int u_at, .int u_sf, .int u_sm, .int u_sl, .int u_sh])), (u_z, .inl (kI, 1000, .inl g_u_z)), (u_l, .inl (kI, 1000, .inl g_u_l)), (u_g, .inl (kI, 1000, .inl g_u_g))])) (va_Qv (fun (_ : Unit) => True) (fun (_ : Unit) t => ∃ (n_z : Nat → Int32) (n_ll : Nat → Int32) (n_gg : Nat → Int32), va_P D vwCl [(h0, .inr (6, [.ref u_z, .ref u_l, .ref u_g, .int u_at, .int u_sf, .int u_sm, .int u_sl, .int u_sh])), (u_z, .inl (kI, 1000, .inl n_z)), (u_l, .inl (kI, 1000, .inl n_ll)), (u_g, .inl (kI, 1000, .inl n_gg))] t.heap ∧ va_K D vwCl [(kI, .int)] t ∧ va_D (va_A [(h0, .inr (6, [.ref u_z, .ref u_l, .ref u_g, .int u_at, .int u_sf, .int u_sm, .int u_sl, .int u_sh])), (u_z, .inl (kI, 1000, .inl g_u_z)), (u_l, .inl (kI, 1000, .inl g_u_l)), (u_g, .inl (kI, 1000, .inl g_u_g))] sz) [(h0, .inr (6, [.ref u_z, .ref u_l, .ref u_g, .int u_at, .int u_sf, .int u_sm, .int u_sl, .int u_sh])), (u_z, .inl (kI, 1000, .inl n_z)), (u_l, .inl (kI, 1000, .inl n_ll)), (u_g, .inl (kI, 1000, .inl n_gg))]) (va_A [(h0, .inr (6, [.ref u_z, .ref u_l, .ref u_g, .int u_at, .int u_sf, .int u_sm, .int u_sl, .int u_sh])), (u_z, .inl (kI, 1000, .inl g_u_z)), (u_l, .inl (kI, 1000, .inl g_u_l)), (u_g, .inl (kI, 1000, .inl g_u_g))] sz)) 0 0 (va_A [(h0, .inr (6, [.ref u_z, .ref u_l, .ref u_g, .int u_at, .int u_sf, .int u_sm, .int u_sl, .int u_sh])), (u_z, .inl (kI, 1000, .inl g_u_z)), (u_l, .inl (kI, 1000, .inl g_u_l)), (u_g, .inl (kI, 1000, .inl g_u_g))] sz) := by
  refine Met.ofW (cc := cX6_put) (maxL := 3) (ret := none) (by decide) rfl ?_
  intro p e s m args below meth c s₁ B hml hv
  obtain ⟨rfl, hsz, hP, hK, hD0⟩ := hv
  have hx := B.exec
  have hb := B.bytes
  have hr := B.returns
  have hts := atoms_spec (ws := w_X6_put) B.pre
  have hown : s.vm.findClass RX6 = some m.cls := findClass_of_methodNamed B.named
  have hlocks := B.notSynchronized
  subst hsz
  have hD := hD0.self (sz := s.heap.size)
  generalize hAe : va_A [(h0, .inr (6, [.ref u_z, .ref u_l, .ref u_g, .int u_at, .int u_sf, .int u_sm, .int u_sl, .int u_sh])), (u_z, .inl (kI, 1000, .inl g_u_z)), (u_l, .inl (kI, 1000, .inl g_u_l)), (u_g, .inl (kI, 1000, .inl g_u_g))] s.heap.size = A at hD ⊢
  have hA : ∀ q : Nat, s.heap.size ≤ q → A q := fun q h => by rw [← hAe]; exact Or.inr h
  have hS : va_S A s.heap s.heap [] := va_S.rf
  have hP : va_P D vwCl [(h0, .inr (6, [.ref u_z, .ref u_l, .ref u_g, .int u_at, .int u_sf, .int u_sm, .int u_sl, .int u_sh])), (u_z, .inl (kI, 1000, .inl g_u_z)), (u_l, .inl (kI, 1000, .inl g_u_l)), (u_g, .inl (kI, 1000, .inl g_u_g))] s.heap := hP
  have hl := lv_entry ([.ref h0, .int i_n, .int i_v]) (n := 3) (Nat.le_of_ble_eq_true rfl)
  rw [lg_entry_eq]
  generalize (lg_sl ([.ref h0, .int i_n, .int i_v]) ++ List.replicate (3 - (lg_sl ([.ref h0, .int i_n, .int i_v])).length) Slot.unset).toArray = ls at hl ⊢
  have hl : lv_has ls 3 [(0, .ref h0), (1, .int i_n), (2, .int i_v)] := hl
  obtain ⟨H, hHe⟩ : ∃ H : Heap, H = s.heap := ⟨_, rfl⟩
  rw [← hHe] at hP
  have hS : va_S A s.heap H [] := by rw [hHe]; exact hS
  refine pw_heap hHe ?_
  refine lv_aload_n hx hb dX6_put_0 rfl (lv_at hl 0 rfl) ?_
  refine lv_iload_n hx hb dX6_put_1 rfl (lv_at hl 1 rfl) ?_
  have hPc := hP.sub (ws' := [(h0, .inr (6, [.ref u_z, .ref u_l, .ref u_g, .int u_at, .int u_sf, .int u_sm, .int u_sl, .int u_sh])), (u_z, .inl (kI, 1000, .inl g_u_z)), (u_l, .inl (kI, 1000, .inl g_u_l)), (u_g, .inl (kI, 1000, .inl g_u_g))]) [0, 1, 2, 3] rfl
  have hKc := hK.sub (tys' := [(kI, .int)]) [0] rfl
  refine va_calli (va_runV (As := [.int i_n]) (rest := []) ⟨hx, hb, hml, hown, hts⟩ (c_X6_isPlace l D h0 i_n u_z u_l u_g u_at u_sf u_sm u_sl u_sh kI g_u_z g_u_l g_u_g) (cwV 1 hts g_X6_put_X6_isPlace rfl rfl rfl (by decide +kernel) ⟨Nat.le_of_ble_eq_true rfl, Nat.le_of_ble_eq_true rfl⟩) ⟨fun a U g mk q => by obtain ⟨q0, qP, qK⟩ := q; exact ⟨q0, qP, va_K.moved (u := U) (U := U.calling g mk a) (Vm.Alike.refl U.vm) qK⟩, va_recv hKc hPc (ci := 6) (q0 := 0) rfl rfl, fun U hU hW => ⟨rfl, by rw [hU]; exact hPc, va_K.moved hW.alike hKc⟩⟩ rfl rfl hl.1 rfl (lv_room (Nat.le_of_ble_eq_true rfl)) dX6_put_2 ⟨Nat.le_of_ble_eq_true rfl, Nat.le_of_ble_eq_true rfl⟩) hS (fun _ _ h => h.elim) (fun _ h => h.elim) (fun r1 u t H1 locs ht hvm hw hB hz1 hk1 hS => ?_)
  have hP := pw_keep hP (fun q hq => hk1 q hq (fun h => h))
  generalize H1 = H at hP hS ⊢
  refine W.widen (k := 0) (n := 0) (Nat.le_of_ble_eq_true rfl) (Nat.le_of_ble_eq_true rfl) ?_
  have bor1 := hw.1
  have zor1 := pw_boolI bor1
  have hfr1 := hw.2
  refine lv_if_ne (tgt := 9) hx hb dX6_put_5 (by decide) (fun c2 => ?_) (fun c2 => ?_)
  · have nc2 : r1.toInt ≠ 0 := pw_ne c2 rfl (by decide)
    refine lv_aload_n hx hb dX6_put_9 rfl (lv_at hl 0 rfl) ?_
    refine va_get (D := D) (ci := 6) (v := .ref u_z) (C := RX6) (T := TX6) (N := 8) hx hb hts (fun _ h => List.mem_cons_of_mem _ (List.mem_append_right _ h)) hown hK hP 0 rfl rfl 0 (by decide) (hts (.fieldLink RX6 9 "LineCites$Spans" "sizes" "[I") (List.mem_of_getElem? (i := 6) rfl)) (fun _ h9 => h9) rfl dX6_put_10 ?_
    refine lv_iload_n hx hb dX6_put_13 rfl (lv_at hl 1 rfl) ?_
    refine va_iald hx hb hK hP 1 0 rfl rfl (vp_in_iff.mpr ⟨by omega, by omega⟩) dX6_put_14 ?_
    refine lv_topi (fun x3 ex3 => ?_)
    refine pw_join (fun (f9 : Nat → Int32) H locs ls => va_P D vwCl [(h0, .inr (6, [.ref u_z, .ref u_l, .ref u_g, .int u_at, .int u_sf, .int u_sm, .int u_sl, .int u_sh])), (u_z, .inl (kI, 1000, .inl g_u_z)), (u_l, .inl (kI, 1000, .inl f9)), (u_g, .inl (kI, 1000, .inl g_u_g))] H ∧ va_D A [(h0, .inr (6, [.ref u_z, .ref u_l, .ref u_g, .int u_at, .int u_sf, .int u_sm, .int u_sl, .int u_sh])), (u_z, .inl (kI, 1000, .inl g_u_z)), (u_l, .inl (kI, 1000, .inl f9)), (u_g, .inl (kI, 1000, .inl g_u_g))] ∧ va_S A s.heap H locs ∧ lv_has ls 3 [(0, .ref h0), (1, .int i_n), (2, .int i_v)]) 0 0 (fun (f9 : Nat → Int32) ls => F0 m 35 ls []) (fun f9 H locs ls hI => ?_) (fun hJ10 => ?_)
    ·
      obtain ⟨hP, hD, hS, hl⟩ := hI
      have hP : va_P D vwCl [(h0, .inr (6, [.ref u_z, .ref u_l, .ref u_g, .int u_at, .int u_sf, .int u_sm, .int u_sl, .int u_sh])), (u_z, .inl (kI, 1000, .inl g_u_z)), (u_l, .inl (kI, 1000, .inl f9)), (u_g, .inl (kI, 1000, .inl g_u_g))] H := hP
      have hD : va_D A [(h0, .inr (6, [.ref u_z, .ref u_l, .ref u_g, .int u_at, .int u_sf, .int u_sm, .int u_sl, .int u_sh])), (u_z, .inl (kI, 1000, .inl g_u_z)), (u_l, .inl (kI, 1000, .inl f9)), (u_g, .inl (kI, 1000, .inl g_u_g))] := hD
      have hK : va_K D vwCl [(kI, .int)] s := hK
      have hl : lv_has ls 3 [(0, .ref h0), (1, .int i_n), (2, .int i_v)] := hl
      refine W.eq (g2 := F0 m 35 ls []) rfl ?_
      refine lv_aload_n hx hb dX6_put_35 rfl (lv_at hl 0 rfl) ?_
      refine va_get (D := D) (ci := 6) (v := .ref u_z) (C := RX6) (T := TX6) (N := 8) hx hb hts (fun _ h => List.mem_cons_of_mem _ (List.mem_append_right _ h)) hown hK hP 0 rfl rfl 0 (by decide) (hts (.fieldLink RX6 9 "LineCites$Spans" "sizes" "[I") (List.mem_of_getElem? (i := 6) rfl)) (fun _ h9 => h9) rfl dX6_put_36 ?_
      refine lv_iload_n hx hb dX6_put_39 rfl (lv_at hl 1 rfl) ?_
      refine va_iald hx hb hK hP 1 0 rfl rfl (vp_in_iff.mpr ⟨by omega, by omega⟩) dX6_put_40 ?_
      refine lv_topi (fun x11 ex11 => ?_)
      refine pw_join (fun (f17 : Nat → Int32) H locs ls => va_P D vwCl [(h0, .inr (6, [.ref u_z, .ref u_l, .ref u_g, .int u_at, .int u_sf, .int u_sm, .int u_sl, .int u_sh])), (u_z, .inl (kI, 1000, .inl g_u_z)), (u_l, .inl (kI, 1000, .inl f9)), (u_g, .inl (kI, 1000, .inl f17))] H ∧ va_D A [(h0, .inr (6, [.ref u_z, .ref u_l, .ref u_g, .int u_at, .int u_sf, .int u_sm, .int u_sl, .int u_sh])), (u_z, .inl (kI, 1000, .inl g_u_z)), (u_l, .inl (kI, 1000, .inl f9)), (u_g, .inl (kI, 1000, .inl f17))] ∧ va_S A s.heap H locs ∧ lv_has ls 3 [(0, .ref h0), (1, .int i_n), (2, .int i_v)]) 0 0 (fun (f17 : Nat → Int32) ls => F0 m 61 ls []) (fun f17 H locs ls hI => ?_) (fun hJ18 => ?_)
      ·
        obtain ⟨hP, hD, hS, hl⟩ := hI
        have hP : va_P D vwCl [(h0, .inr (6, [.ref u_z, .ref u_l, .ref u_g, .int u_at, .int u_sf, .int u_sm, .int u_sl, .int u_sh])), (u_z, .inl (kI, 1000, .inl g_u_z)), (u_l, .inl (kI, 1000, .inl f9)), (u_g, .inl (kI, 1000, .inl f17))] H := hP
        have hD : va_D A [(h0, .inr (6, [.ref u_z, .ref u_l, .ref u_g, .int u_at, .int u_sf, .int u_sm, .int u_sl, .int u_sh])), (u_z, .inl (kI, 1000, .inl g_u_z)), (u_l, .inl (kI, 1000, .inl f9)), (u_g, .inl (kI, 1000, .inl f17))] := hD
        have hK : va_K D vwCl [(kI, .int)] s := hK
        have hl : lv_has ls 3 [(0, .ref h0), (1, .int i_n), (2, .int i_v)] := hl
        refine W.eq (g2 := F0 m 61 ls []) rfl ?_
        refine lv_aload_n hx hb dX6_put_61 rfl (lv_at hl 0 rfl) ?_
        refine va_get (D := D) (ci := 6) (v := .ref u_z) (C := RX6) (T := TX6) (N := 8) hx hb hts (fun _ h => List.mem_cons_of_mem _ (List.mem_append_right _ h)) hown hK hP 0 rfl rfl 0 (by decide) (hts (.fieldLink RX6 9 "LineCites$Spans" "sizes" "[I") (List.mem_of_getElem? (i := 6) rfl)) (fun _ h9 => h9) rfl dX6_put_62 ?_
        refine lv_iload_n hx hb dX6_put_65 rfl (lv_at hl 1 rfl) ?_
        refine lv_dup2_11 hx hb dX6_put_66 rfl rfl ?_
        refine va_iald hx hb hK hP 1 0 rfl rfl (vp_in_iff.mpr ⟨by omega, by omega⟩) dX6_put_67 ?_
        refine lv_topi (fun x19 ex19 => ?_)
        refine lv_iconst (v := 1) hx hb dX6_put_68 (by decide) ?_
        refine lv_iadd hx hb dX6_put_69 ?_
        refine lv_topi (fun x20 ex20 => ?_)
        refine va_iast hx hb hK hP hD hS 1 0 rfl rfl (vp_in_iff.mpr ⟨by omega, by omega⟩) dX6_put_70 (fun H locs hP hD hS => ?_)
        obtain ⟨g21, eg21⟩ : ∃ g : Nat → Int32, g = upd g_u_z (i_n : Int32).toNatClampNeg x20 := ⟨_, rfl⟩
        have hP : va_P D vwCl [(h0, .inr (6, [.ref u_z, .ref u_l, .ref u_g, .int u_at, .int u_sf, .int u_sm, .int u_sl, .int u_sh])), (u_z, .inl (kI, 1000, .inl (upd g_u_z (i_n : Int32).toNatClampNeg x20))), (u_l, .inl (kI, 1000, .inl f9)), (u_g, .inl (kI, 1000, .inl f17))] H := hP
        have hD : va_D A [(h0, .inr (6, [.ref u_z, .ref u_l, .ref u_g, .int u_at, .int u_sf, .int u_sm, .int u_sl, .int u_sh])), (u_z, .inl (kI, 1000, .inl (upd g_u_z (i_n : Int32).toNatClampNeg x20))), (u_l, .inl (kI, 1000, .inl f9)), (u_g, .inl (kI, 1000, .inl f17))] := hD
        have hK : va_K D vwCl [(kI, .int)] s := hK
        rw [← eg21] at hP hD
        have hP9 := hP.sub (ws' := [(h0, .inr (6, [.ref u_z, .ref u_l, .ref u_g, .int u_at, .int u_sf, .int u_sm, .int u_sl, .int u_sh])), (u_z, .inl (kI, 1000, .inl g21)), (u_l, .inl (kI, 1000, .inl f9)), (u_g, .inl (kI, 1000, .inl f17))]) [0, 1, 2, 3] rfl
        have hD9 := hD.sub (ws' := [(h0, .inr (6, [.ref u_z, .ref u_l, .ref u_g, .int u_at, .int u_sf, .int u_sm, .int u_sl, .int u_sh])), (u_z, .inl (kI, 1000, .inl g21)), (u_l, .inl (kI, 1000, .inl f9)), (u_g, .inl (kI, 1000, .inl f17))]) [0, 1, 2, 3] (by decide) rfl
        have hK9 := hK.sub (tys' := [(kI, .int)]) [0] rfl
        refine W.widen (k := 0) (n := 0) (Nat.le_of_ble_eq_true rfl) (Nat.le_of_ble_eq_true rfl) ?_
        exact W.vret hx hb hr (fun t ht hW => ⟨⟨(), rfl, trivial, g21, f9, f17, by rw [ht]; exact hP9, va_K.moved hW.alike hK9, hD9⟩, hS.F ht⟩) hS.2.2 dX6_put_71
      ·
        refine lv_if_eq (tgt := 54) hx hb dX6_put_41 (by decide) (fun c22 => ?_) (fun c22 => ?_)
        · have nc22 : x11.toInt = 0 := pw_eq c22 rfl (by decide)
          refine lv_aload_n hx hb dX6_put_54 rfl (lv_at hl 0 rfl) ?_
          refine va_get (D := D) (ci := 6) (v := .ref u_g) (C := RX6) (T := TX6) (N := 8) hx hb hts (fun _ h => List.mem_cons_of_mem _ (List.mem_append_right _ h)) hown hK hP 0 rfl rfl 2 (by decide) (hts (.fieldLink RX6 18 "LineCites$Spans" "greatests" "[I") (List.mem_of_getElem? (i := 8) rfl)) (fun _ h9 => h9) rfl dX6_put_55 ?_
          refine lv_iload_n hx hb dX6_put_58 rfl (lv_at hl 1 rfl) ?_
          refine lv_iload_n hx hb dX6_put_59 rfl (lv_at hl 2 rfl) ?_
          refine va_iast hx hb hK hP hD hS 3 0 rfl rfl (vp_in_iff.mpr ⟨by omega, by omega⟩) dX6_put_60 (fun H locs hP hD hS => ?_)
          obtain ⟨g23, eg23⟩ : ∃ g : Nat → Int32, g = upd g_u_g (i_n : Int32).toNatClampNeg i_v := ⟨_, rfl⟩
          have hP : va_P D vwCl [(h0, .inr (6, [.ref u_z, .ref u_l, .ref u_g, .int u_at, .int u_sf, .int u_sm, .int u_sl, .int u_sh])), (u_z, .inl (kI, 1000, .inl g_u_z)), (u_l, .inl (kI, 1000, .inl f9)), (u_g, .inl (kI, 1000, .inl (upd g_u_g (i_n : Int32).toNatClampNeg i_v)))] H := hP
          have hD : va_D A [(h0, .inr (6, [.ref u_z, .ref u_l, .ref u_g, .int u_at, .int u_sf, .int u_sm, .int u_sl, .int u_sh])), (u_z, .inl (kI, 1000, .inl g_u_z)), (u_l, .inl (kI, 1000, .inl f9)), (u_g, .inl (kI, 1000, .inl (upd g_u_g (i_n : Int32).toNatClampNeg i_v)))] := hD
          have hK : va_K D vwCl [(kI, .int)] s := hK
          rw [← eg23] at hP hD
          have hP9 : va_P D vwCl [(h0, .inr (6, [.ref u_z, .ref u_l, .ref u_g, .int u_at, .int u_sf, .int u_sm, .int u_sl, .int u_sh])), (u_z, .inl (kI, 1000, .inl g_u_z)), (u_l, .inl (kI, 1000, .inl f9)), (u_g, .inl (kI, 1000, .inl g23))] H := hP.sub [0, 1, 2, 3] rfl
          have hD9 : va_D A [(h0, .inr (6, [.ref u_z, .ref u_l, .ref u_g, .int u_at, .int u_sf, .int u_sm, .int u_sl, .int u_sh])), (u_z, .inl (kI, 1000, .inl g_u_z)), (u_l, .inl (kI, 1000, .inl f9)), (u_g, .inl (kI, 1000, .inl g23))] := hD.sub [0, 1, 2, 3] (by decide) rfl
          have hl9 : lv_has ls 3 [(0, .ref h0), (1, .int i_n), (2, .int i_v)] := lv_sub hl [0, 1, 2] rfl
          refine W.widen (k := 0) (n := 0) (Nat.le_of_ble_eq_true rfl) (Nat.le_of_ble_eq_true rfl) ?_
          exact hJ18 g23 _ _ _ ⟨hP9, hD9, hS, hl9⟩
        · have nc22 : x11.toInt ≠ 0 := pw_ne c22 rfl (by decide)
          refine lv_iload_n hx hb dX6_put_44 rfl (lv_at hl 2 rfl) ?_
          refine lv_aload_n hx hb dX6_put_45 rfl (lv_at hl 0 rfl) ?_
          refine va_get (D := D) (ci := 6) (v := .ref u_g) (C := RX6) (T := TX6) (N := 8) hx hb hts (fun _ h => List.mem_cons_of_mem _ (List.mem_append_right _ h)) hown hK hP 0 rfl rfl 2 (by decide) (hts (.fieldLink RX6 18 "LineCites$Spans" "greatests" "[I") (List.mem_of_getElem? (i := 8) rfl)) (fun _ h9 => h9) rfl dX6_put_46 ?_
          refine lv_iload_n hx hb dX6_put_49 rfl (lv_at hl 1 rfl) ?_
          refine va_iald hx hb hK hP 3 0 rfl rfl (vp_in_iff.mpr ⟨by omega, by omega⟩) dX6_put_50 ?_
          refine lv_topi (fun x24 ex24 => ?_)
          refine lv_icmp_le (tgt := 61) hx hb dX6_put_51 (by decide) (fun c25 => ?_) (fun c25 => ?_)
          · have nc25 : i_v.toInt ≤ x24.toInt := pw_le c25 rfl rfl
            have mc25i_v := pw_max i_v
            have mc25x24 := pw_max x24
            have hP9 : va_P D vwCl [(h0, .inr (6, [.ref u_z, .ref u_l, .ref u_g, .int u_at, .int u_sf, .int u_sm, .int u_sl, .int u_sh])), (u_z, .inl (kI, 1000, .inl g_u_z)), (u_l, .inl (kI, 1000, .inl f9)), (u_g, .inl (kI, 1000, .inl g_u_g))] H := hP.sub [0, 1, 2, 3] rfl
            have hD9 : va_D A [(h0, .inr (6, [.ref u_z, .ref u_l, .ref u_g, .int u_at, .int u_sf, .int u_sm, .int u_sl, .int u_sh])), (u_z, .inl (kI, 1000, .inl g_u_z)), (u_l, .inl (kI, 1000, .inl f9)), (u_g, .inl (kI, 1000, .inl g_u_g))] := hD.sub [0, 1, 2, 3] (by decide) rfl
            have hl9 : lv_has ls 3 [(0, .ref h0), (1, .int i_n), (2, .int i_v)] := lv_sub hl [0, 1, 2] rfl
            refine W.widen (k := 0) (n := 0) (Nat.le_of_ble_eq_true rfl) (Nat.le_of_ble_eq_true rfl) ?_
            exact hJ18 g_u_g _ _ _ ⟨hP9, hD9, hS, hl9⟩
          · have nc25 : x24.toInt < i_v.toInt := pw_nle c25 rfl rfl
            have mc25i_v := pw_max i_v
            have mc25x24 := pw_max x24
            refine lv_aload_n hx hb dX6_put_54 rfl (lv_at hl 0 rfl) ?_
            refine va_get (D := D) (ci := 6) (v := .ref u_g) (C := RX6) (T := TX6) (N := 8) hx hb hts (fun _ h => List.mem_cons_of_mem _ (List.mem_append_right _ h)) hown hK hP 0 rfl rfl 2 (by decide) (hts (.fieldLink RX6 18 "LineCites$Spans" "greatests" "[I") (List.mem_of_getElem? (i := 8) rfl)) (fun _ h9 => h9) rfl dX6_put_55 ?_
            refine lv_iload_n hx hb dX6_put_58 rfl (lv_at hl 1 rfl) ?_
            refine lv_iload_n hx hb dX6_put_59 rfl (lv_at hl 2 rfl) ?_
            refine va_iast hx hb hK hP hD hS 3 0 rfl rfl (vp_in_iff.mpr ⟨by omega, by omega⟩) dX6_put_60 (fun H locs hP hD hS => ?_)
            obtain ⟨g26, eg26⟩ : ∃ g : Nat → Int32, g = upd g_u_g (i_n : Int32).toNatClampNeg i_v := ⟨_, rfl⟩
            have hP : va_P D vwCl [(h0, .inr (6, [.ref u_z, .ref u_l, .ref u_g, .int u_at, .int u_sf, .int u_sm, .int u_sl, .int u_sh])), (u_z, .inl (kI, 1000, .inl g_u_z)), (u_l, .inl (kI, 1000, .inl f9)), (u_g, .inl (kI, 1000, .inl (upd g_u_g (i_n : Int32).toNatClampNeg i_v)))] H := hP
            have hD : va_D A [(h0, .inr (6, [.ref u_z, .ref u_l, .ref u_g, .int u_at, .int u_sf, .int u_sm, .int u_sl, .int u_sh])), (u_z, .inl (kI, 1000, .inl g_u_z)), (u_l, .inl (kI, 1000, .inl f9)), (u_g, .inl (kI, 1000, .inl (upd g_u_g (i_n : Int32).toNatClampNeg i_v)))] := hD
            have hK : va_K D vwCl [(kI, .int)] s := hK
            rw [← eg26] at hP hD
            have hP9 : va_P D vwCl [(h0, .inr (6, [.ref u_z, .ref u_l, .ref u_g, .int u_at, .int u_sf, .int u_sm, .int u_sl, .int u_sh])), (u_z, .inl (kI, 1000, .inl g_u_z)), (u_l, .inl (kI, 1000, .inl f9)), (u_g, .inl (kI, 1000, .inl g26))] H := hP.sub [0, 1, 2, 3] rfl
            have hD9 : va_D A [(h0, .inr (6, [.ref u_z, .ref u_l, .ref u_g, .int u_at, .int u_sf, .int u_sm, .int u_sl, .int u_sh])), (u_z, .inl (kI, 1000, .inl g_u_z)), (u_l, .inl (kI, 1000, .inl f9)), (u_g, .inl (kI, 1000, .inl g26))] := hD.sub [0, 1, 2, 3] (by decide) rfl
            have hl9 : lv_has ls 3 [(0, .ref h0), (1, .int i_n), (2, .int i_v)] := lv_sub hl [0, 1, 2] rfl
            refine W.widen (k := 0) (n := 0) (Nat.le_of_ble_eq_true rfl) (Nat.le_of_ble_eq_true rfl) ?_
            exact hJ18 g26 _ _ _ ⟨hP9, hD9, hS, hl9⟩
    ·
      refine lv_if_eq (tgt := 28) hx hb dX6_put_15 (by decide) (fun c27 => ?_) (fun c27 => ?_)
      · have nc27 : x3.toInt = 0 := pw_eq c27 rfl (by decide)
        refine lv_aload_n hx hb dX6_put_28 rfl (lv_at hl 0 rfl) ?_
        refine va_get (D := D) (ci := 6) (v := .ref u_l) (C := RX6) (T := TX6) (N := 8) hx hb hts (fun _ h => List.mem_cons_of_mem _ (List.mem_append_right _ h)) hown hK hP 0 rfl rfl 1 (by decide) (hts (.fieldLink RX6 15 "LineCites$Spans" "leasts" "[I") (List.mem_of_getElem? (i := 7) rfl)) (fun _ h9 => h9) rfl dX6_put_29 ?_
        refine lv_iload_n hx hb dX6_put_32 rfl (lv_at hl 1 rfl) ?_
        refine lv_iload_n hx hb dX6_put_33 rfl (lv_at hl 2 rfl) ?_
        refine va_iast hx hb hK hP hD hS 2 0 rfl rfl (vp_in_iff.mpr ⟨by omega, by omega⟩) dX6_put_34 (fun H locs hP hD hS => ?_)
        obtain ⟨g28, eg28⟩ : ∃ g : Nat → Int32, g = upd g_u_l (i_n : Int32).toNatClampNeg i_v := ⟨_, rfl⟩
        have hP : va_P D vwCl [(h0, .inr (6, [.ref u_z, .ref u_l, .ref u_g, .int u_at, .int u_sf, .int u_sm, .int u_sl, .int u_sh])), (u_z, .inl (kI, 1000, .inl g_u_z)), (u_l, .inl (kI, 1000, .inl (upd g_u_l (i_n : Int32).toNatClampNeg i_v))), (u_g, .inl (kI, 1000, .inl g_u_g))] H := hP
        have hD : va_D A [(h0, .inr (6, [.ref u_z, .ref u_l, .ref u_g, .int u_at, .int u_sf, .int u_sm, .int u_sl, .int u_sh])), (u_z, .inl (kI, 1000, .inl g_u_z)), (u_l, .inl (kI, 1000, .inl (upd g_u_l (i_n : Int32).toNatClampNeg i_v))), (u_g, .inl (kI, 1000, .inl g_u_g))] := hD
        have hK : va_K D vwCl [(kI, .int)] s := hK
        rw [← eg28] at hP hD
        have hP9 : va_P D vwCl [(h0, .inr (6, [.ref u_z, .ref u_l, .ref u_g, .int u_at, .int u_sf, .int u_sm, .int u_sl, .int u_sh])), (u_z, .inl (kI, 1000, .inl g_u_z)), (u_l, .inl (kI, 1000, .inl g28)), (u_g, .inl (kI, 1000, .inl g_u_g))] H := hP.sub [0, 1, 2, 3] rfl
        have hD9 : va_D A [(h0, .inr (6, [.ref u_z, .ref u_l, .ref u_g, .int u_at, .int u_sf, .int u_sm, .int u_sl, .int u_sh])), (u_z, .inl (kI, 1000, .inl g_u_z)), (u_l, .inl (kI, 1000, .inl g28)), (u_g, .inl (kI, 1000, .inl g_u_g))] := hD.sub [0, 1, 2, 3] (by decide) rfl
        have hl9 : lv_has ls 3 [(0, .ref h0), (1, .int i_n), (2, .int i_v)] := lv_sub hl [0, 1, 2] rfl
        refine W.widen (k := 0) (n := 0) (Nat.le_of_ble_eq_true rfl) (Nat.le_of_ble_eq_true rfl) ?_
        exact hJ10 g28 _ _ _ ⟨hP9, hD9, hS, hl9⟩
      · have nc27 : x3.toInt ≠ 0 := pw_ne c27 rfl (by decide)
        refine lv_iload_n hx hb dX6_put_18 rfl (lv_at hl 2 rfl) ?_
        refine lv_aload_n hx hb dX6_put_19 rfl (lv_at hl 0 rfl) ?_
        refine va_get (D := D) (ci := 6) (v := .ref u_l) (C := RX6) (T := TX6) (N := 8) hx hb hts (fun _ h => List.mem_cons_of_mem _ (List.mem_append_right _ h)) hown hK hP 0 rfl rfl 1 (by decide) (hts (.fieldLink RX6 15 "LineCites$Spans" "leasts" "[I") (List.mem_of_getElem? (i := 7) rfl)) (fun _ h9 => h9) rfl dX6_put_20 ?_
        refine lv_iload_n hx hb dX6_put_23 rfl (lv_at hl 1 rfl) ?_
        refine va_iald hx hb hK hP 2 0 rfl rfl (vp_in_iff.mpr ⟨by omega, by omega⟩) dX6_put_24 ?_
        refine lv_topi (fun x29 ex29 => ?_)
        refine lv_icmp_ge (tgt := 35) hx hb dX6_put_25 (by decide) (fun c30 => ?_) (fun c30 => ?_)
        · have nc30 : x29.toInt ≤ i_v.toInt := pw_le c30 rfl rfl
          have mc30i_v := pw_max i_v
          have mc30x29 := pw_max x29
          have hP9 : va_P D vwCl [(h0, .inr (6, [.ref u_z, .ref u_l, .ref u_g, .int u_at, .int u_sf, .int u_sm, .int u_sl, .int u_sh])), (u_z, .inl (kI, 1000, .inl g_u_z)), (u_l, .inl (kI, 1000, .inl g_u_l)), (u_g, .inl (kI, 1000, .inl g_u_g))] H := hP.sub [0, 1, 2, 3] rfl
          have hD9 : va_D A [(h0, .inr (6, [.ref u_z, .ref u_l, .ref u_g, .int u_at, .int u_sf, .int u_sm, .int u_sl, .int u_sh])), (u_z, .inl (kI, 1000, .inl g_u_z)), (u_l, .inl (kI, 1000, .inl g_u_l)), (u_g, .inl (kI, 1000, .inl g_u_g))] := hD.sub [0, 1, 2, 3] (by decide) rfl
          have hl9 : lv_has ls 3 [(0, .ref h0), (1, .int i_n), (2, .int i_v)] := lv_sub hl [0, 1, 2] rfl
          refine W.widen (k := 0) (n := 0) (Nat.le_of_ble_eq_true rfl) (Nat.le_of_ble_eq_true rfl) ?_
          exact hJ10 g_u_l _ _ _ ⟨hP9, hD9, hS, hl9⟩
        · have nc30 : i_v.toInt < x29.toInt := pw_nle c30 rfl rfl
          have mc30i_v := pw_max i_v
          have mc30x29 := pw_max x29
          refine lv_aload_n hx hb dX6_put_28 rfl (lv_at hl 0 rfl) ?_
          refine va_get (D := D) (ci := 6) (v := .ref u_l) (C := RX6) (T := TX6) (N := 8) hx hb hts (fun _ h => List.mem_cons_of_mem _ (List.mem_append_right _ h)) hown hK hP 0 rfl rfl 1 (by decide) (hts (.fieldLink RX6 15 "LineCites$Spans" "leasts" "[I") (List.mem_of_getElem? (i := 7) rfl)) (fun _ h9 => h9) rfl dX6_put_29 ?_
          refine lv_iload_n hx hb dX6_put_32 rfl (lv_at hl 1 rfl) ?_
          refine lv_iload_n hx hb dX6_put_33 rfl (lv_at hl 2 rfl) ?_
          refine va_iast hx hb hK hP hD hS 2 0 rfl rfl (vp_in_iff.mpr ⟨by omega, by omega⟩) dX6_put_34 (fun H locs hP hD hS => ?_)
          obtain ⟨g31, eg31⟩ : ∃ g : Nat → Int32, g = upd g_u_l (i_n : Int32).toNatClampNeg i_v := ⟨_, rfl⟩
          have hP : va_P D vwCl [(h0, .inr (6, [.ref u_z, .ref u_l, .ref u_g, .int u_at, .int u_sf, .int u_sm, .int u_sl, .int u_sh])), (u_z, .inl (kI, 1000, .inl g_u_z)), (u_l, .inl (kI, 1000, .inl (upd g_u_l (i_n : Int32).toNatClampNeg i_v))), (u_g, .inl (kI, 1000, .inl g_u_g))] H := hP
          have hD : va_D A [(h0, .inr (6, [.ref u_z, .ref u_l, .ref u_g, .int u_at, .int u_sf, .int u_sm, .int u_sl, .int u_sh])), (u_z, .inl (kI, 1000, .inl g_u_z)), (u_l, .inl (kI, 1000, .inl (upd g_u_l (i_n : Int32).toNatClampNeg i_v))), (u_g, .inl (kI, 1000, .inl g_u_g))] := hD
          have hK : va_K D vwCl [(kI, .int)] s := hK
          rw [← eg31] at hP hD
          have hP9 : va_P D vwCl [(h0, .inr (6, [.ref u_z, .ref u_l, .ref u_g, .int u_at, .int u_sf, .int u_sm, .int u_sl, .int u_sh])), (u_z, .inl (kI, 1000, .inl g_u_z)), (u_l, .inl (kI, 1000, .inl g31)), (u_g, .inl (kI, 1000, .inl g_u_g))] H := hP.sub [0, 1, 2, 3] rfl
          have hD9 : va_D A [(h0, .inr (6, [.ref u_z, .ref u_l, .ref u_g, .int u_at, .int u_sf, .int u_sm, .int u_sl, .int u_sh])), (u_z, .inl (kI, 1000, .inl g_u_z)), (u_l, .inl (kI, 1000, .inl g31)), (u_g, .inl (kI, 1000, .inl g_u_g))] := hD.sub [0, 1, 2, 3] (by decide) rfl
          have hl9 : lv_has ls 3 [(0, .ref h0), (1, .int i_n), (2, .int i_v)] := lv_sub hl [0, 1, 2] rfl
          refine W.widen (k := 0) (n := 0) (Nat.le_of_ble_eq_true rfl) (Nat.le_of_ble_eq_true rfl) ?_
          exact hJ10 g31 _ _ _ ⟨hP9, hD9, hS, hl9⟩
  · have nc2 : r1.toInt = 0 := pw_eq c2 rfl (by decide)
    have hP9 := hP.sub (ws' := [(h0, .inr (6, [.ref u_z, .ref u_l, .ref u_g, .int u_at, .int u_sf, .int u_sm, .int u_sl, .int u_sh])), (u_z, .inl (kI, 1000, .inl g_u_z)), (u_l, .inl (kI, 1000, .inl g_u_l)), (u_g, .inl (kI, 1000, .inl g_u_g))]) [0, 1, 2, 3] rfl
    have hD9 := hD.sub (ws' := [(h0, .inr (6, [.ref u_z, .ref u_l, .ref u_g, .int u_at, .int u_sf, .int u_sm, .int u_sl, .int u_sh])), (u_z, .inl (kI, 1000, .inl g_u_z)), (u_l, .inl (kI, 1000, .inl g_u_l)), (u_g, .inl (kI, 1000, .inl g_u_g))]) [0, 1, 2, 3] (by decide) rfl
    have hK9 := hK.sub (tys' := [(kI, .int)]) [0] rfl
    refine W.widen (k := 0) (n := 0) (Nat.le_of_ble_eq_true rfl) (Nat.le_of_ble_eq_true rfl) ?_
    exact W.vret hx hb hr (fun t ht hW => ⟨⟨(), rfl, trivial, g_u_z, g_u_l, g_u_g, by rw [ht]; exact hP9, va_K.moved hW.alike hK9, hD9⟩, hS.F ht⟩) hS.2.2 dX6_put_8
def w_X6_hasSome : List Cond := .code yX6_hasSome cX6_hasSome 2 (some .boolean) :: ([.methodLink RX6 21 yX6_isPlace, .instanceMethod yX6_isPlace, .selects RX6 yX6_isPlace yX6_isPlace, .initialized RX6, .code yX6_isPlace cX6_isPlace 2 (some .boolean), .fieldLink RX6 9 "LineCites$Spans" "sizes" "[I", .fieldLink RX6 15 "LineCites$Spans" "leasts" "[I", .fieldLink RX6 18 "LineCites$Spans" "greatests" "[I"] ++ wsX60)
set_option maxRecDepth 20000 in
theorem g_X6_hasSome_X6_isPlace : GoodIn w_X6_hasSome (wsV RX6 21 RX6 yX6_isPlace w_X6_isPlace) := goodIn_r _ [1, 2, 3, 4, 5, 6, 7, 8, 9, 10, 11, 12, 13, 14, 15, 16] rfl (by decide +kernel)
set_option maxHeartbeats 4000000 in
set_option maxRecDepth 100000 in
theorem c_X6_hasSome (l : Launch) (D : va_G) (h0 : Nat) (i_n : Int32) (u_z : Nat) (u_l : Nat) (u_g : Nat) (u_at : Int32) (u_sf : Int32) (u_sm : Int32) (u_sl : Int32) (u_sh : Int32) (kI : ClassId) (g_u_z : Nat → Int32) (g_u_l : Nat → Int32) (g_u_g : Nat → Int32) : Met l yX6_hasSome w_X6_hasSome ({ frames := 1, cells := 0, slots := 0, locals := 21 }) (va_Pc [.ref h0, .int i_n] (fun U => va_P D vwCl [(h0, .inr (6, [.ref u_z, .ref u_l, .ref u_g, .int u_at, .int u_sf, .int u_sm, .int u_sl, .int u_sh])), (u_z, .inl (kI, 1000, .inl g_u_z)), (u_l, .inl (kI, 1000, .inl g_u_l)), (u_g, .inl (kI, 1000, .inl g_u_g))] U.heap ∧ va_K D vwCl [(kI, .int)] U)) (va_Qi (fun (r : Int32) (_ : Unit) => (r = 0 ∨ r = 1) ∧ (r.toInt = 0 ∨ (0 ≤ i_n.toInt ∧ i_n.toInt ≤ 999))) (fun _ _ => True) (fun _ => False)) 0 0 (fun _ => False) := by
  refine Met.ofW (cc := cX6_hasSome) (maxL := 2) (ret := (some .boolean)) (by decide) rfl ?_
  intro p e s m args below meth c s₁ B hml hv
  obtain ⟨rfl, hP, hK⟩ := hv
  have hx := B.exec
  have hb := B.bytes
  have hr := B.returns
  have hts := atoms_spec (ws := w_X6_hasSome) B.pre
  have hown : s.vm.findClass RX6 = some m.cls := findClass_of_methodNamed B.named
  have hlocks := B.notSynchronized
  have hS : va_S (fun _ : Nat => False) s.heap s.heap [] := va_S.rf
  have hP : va_P D vwCl [(h0, .inr (6, [.ref u_z, .ref u_l, .ref u_g, .int u_at, .int u_sf, .int u_sm, .int u_sl, .int u_sh])), (u_z, .inl (kI, 1000, .inl g_u_z)), (u_l, .inl (kI, 1000, .inl g_u_l)), (u_g, .inl (kI, 1000, .inl g_u_g))] s.heap := hP
  have hl := lv_entry ([.ref h0, .int i_n]) (n := 2) (Nat.le_of_ble_eq_true rfl)
  rw [lg_entry_eq]
  generalize (lg_sl ([.ref h0, .int i_n]) ++ List.replicate (2 - (lg_sl ([.ref h0, .int i_n])).length) Slot.unset).toArray = ls at hl ⊢
  have hl : lv_has ls 2 [(0, .ref h0), (1, .int i_n)] := hl
  obtain ⟨H, hHe⟩ : ∃ H : Heap, H = s.heap := ⟨_, rfl⟩
  rw [← hHe] at hP
  have hS : va_S (fun _ : Nat => False) s.heap H [] := by rw [hHe]; exact hS
  refine pw_heap hHe ?_
  refine lv_aload_n hx hb dX6_hasSome_0 rfl (lv_at hl 0 rfl) ?_
  refine lv_iload_n hx hb dX6_hasSome_1 rfl (lv_at hl 1 rfl) ?_
  have hPc := hP.sub (ws' := [(h0, .inr (6, [.ref u_z, .ref u_l, .ref u_g, .int u_at, .int u_sf, .int u_sm, .int u_sl, .int u_sh])), (u_z, .inl (kI, 1000, .inl g_u_z)), (u_l, .inl (kI, 1000, .inl g_u_l)), (u_g, .inl (kI, 1000, .inl g_u_g))]) [0, 1, 2, 3] rfl
  have hKc := hK.sub (tys' := [(kI, .int)]) [0] rfl
  refine va_calli (va_runV (As := [.int i_n]) (rest := []) ⟨hx, hb, hml, hown, hts⟩ (c_X6_isPlace l D h0 i_n u_z u_l u_g u_at u_sf u_sm u_sl u_sh kI g_u_z g_u_l g_u_g) (cwV 1 hts g_X6_hasSome_X6_isPlace rfl rfl rfl (by decide +kernel) ⟨Nat.le_of_ble_eq_true rfl, Nat.le_of_ble_eq_true rfl⟩) ⟨fun a U g mk q => by obtain ⟨q0, qP, qK⟩ := q; exact ⟨q0, qP, va_K.moved (u := U) (U := U.calling g mk a) (Vm.Alike.refl U.vm) qK⟩, va_recv hKc hPc (ci := 6) (q0 := 0) rfl rfl, fun U hU hW => ⟨rfl, by rw [hU]; exact hPc, va_K.moved hW.alike hKc⟩⟩ rfl rfl hl.1 rfl (lv_room (Nat.le_of_ble_eq_true rfl)) dX6_hasSome_2 ⟨Nat.le_of_ble_eq_true rfl, Nat.le_of_ble_eq_true rfl⟩) hS (fun _ _ h => h.elim) (fun _ h => h.elim) (fun r1 u t H1 locs ht hvm hw hB hz1 hk1 hS => ?_)
  have hP := pw_keep hP (fun q hq => hk1 q hq (fun h => h))
  generalize H1 = H at hP hS ⊢
  refine W.widen (k := 0) (n := 0) (Nat.le_of_ble_eq_true rfl) (Nat.le_of_ble_eq_true rfl) ?_
  have bor1 := hw.1
  have zor1 := pw_boolI bor1
  have hfr1 := hw.2
  refine lv_if_eq (tgt := 21) hx hb dX6_hasSome_5 (by decide) (fun c2 => ?_) (fun c2 => ?_)
  · have nc2 : r1.toInt = 0 := pw_eq c2 rfl (by decide)
    refine lv_iconst (v := 0) hx hb dX6_hasSome_21 (by decide) ?_
    exact W.zret (v := 0) (ty := .boolean) hx hb hr rfl (fun t ht hW => ⟨⟨0, (), rfl, ⟨Or.inl rfl, (by have hv : (0 : Int32).toInt = 0 := (by decide); omega)⟩, trivial⟩, hS.F ht⟩) hS.2.2 dX6_hasSome_22
  · have nc2 : r1.toInt ≠ 0 := pw_ne c2 rfl (by decide)
    refine lv_aload_n hx hb dX6_hasSome_8 rfl (lv_at hl 0 rfl) ?_
    refine va_get (D := D) (ci := 6) (v := .ref u_z) (C := RX6) (T := TX6) (N := 8) hx hb hts (fun _ h => List.mem_cons_of_mem _ (List.mem_append_right _ h)) hown hK hP 0 rfl rfl 0 (by decide) (hts (.fieldLink RX6 9 "LineCites$Spans" "sizes" "[I") (List.mem_of_getElem? (i := 6) rfl)) (fun _ h9 => h9) rfl dX6_hasSome_9 ?_
    refine lv_iload_n hx hb dX6_hasSome_12 rfl (lv_at hl 1 rfl) ?_
    refine va_iald hx hb hK hP 1 0 rfl rfl (vp_in_iff.mpr ⟨by omega, by omega⟩) dX6_hasSome_13 ?_
    refine lv_topi (fun x3 ex3 => ?_)
    refine lv_if_le (tgt := 21) hx hb dX6_hasSome_14 (by decide) (fun c4 => ?_) (fun c4 => ?_)
    · have nc4 : x3.toInt ≤ 0 := pw_le c4 rfl (by decide)
      refine lv_iconst (v := 0) hx hb dX6_hasSome_21 (by decide) ?_
      exact W.zret (v := 0) (ty := .boolean) hx hb hr rfl (fun t ht hW => ⟨⟨0, (), rfl, ⟨Or.inl rfl, (by have hv : (0 : Int32).toInt = 0 := (by decide); omega)⟩, trivial⟩, hS.F ht⟩) hS.2.2 dX6_hasSome_22
    · have nc4 : 0 < x3.toInt := pw_nle c4 rfl (by decide)
      refine lv_iconst (v := 1) hx hb dX6_hasSome_17 (by decide) ?_
      refine lv_goto (tgt := 22) hx hb dX6_hasSome_18 (by decide) ?_
      exact W.zret (v := 1) (ty := .boolean) hx hb hr rfl (fun t ht hW => ⟨⟨1, (), rfl, ⟨Or.inr rfl, (by have hv : (1 : Int32).toInt = 1 := (by decide); omega)⟩, trivial⟩, hS.F ht⟩) hS.2.2 dX6_hasSome_22
def w_X6_fillWithLines : List Cond := .code yX6_fillWithLines cX6_fillWithLines 4 none :: ([.methodLink RX6 25 yX6_clear, .instanceMethod yX6_clear, .selects RX6 yX6_clear yX6_clear, .initialized RX6, .code yX6_clear cX6_clear 2 none, .fieldLink RX6 9 "LineCites$Spans" "sizes" "[I", .methodLink RX6 28 yX3_lines, .instanceMethod yX3_lines, .selects RX3 yX3_lines yX3_lines, .initialized RX3, .code yX3_lines cX3_lines 1 (some .int), .fieldLink RX3 24 "LineCites$Numbering" "lines" "I", .methodLink RX6 34 yX3_isNumbered, .instanceMethod yX3_isNumbered, .selects RX3 yX3_isNumbered yX3_isNumbered, .code yX3_isNumbered cX3_isNumbered 2 (some .boolean), .methodLink RX3 46 yX3_low, .instanceMethod yX3_low, .selects RX3 yX3_low yX3_low, .code yX3_low cX3_low 2 (some .int), .fieldLink RX3 9 "LineCites$Numbering" "lows" "[I", .methodLink RX6 37 yX3_low, .methodLink RX6 41 yX3_high, .instanceMethod yX3_high, .selects RX3 yX3_high yX3_high, .code yX3_high cX3_high 2 (some .int), .fieldLink RX3 15 "LineCites$Numbering" "highs" "[I", .methodLink RX6 44 yX6_put, .instanceMethod yX6_put, .selects RX6 yX6_put yX6_put, .code yX6_put cX6_put 3 none, .methodLink RX6 21 yX6_isPlace, .instanceMethod yX6_isPlace, .selects RX6 yX6_isPlace yX6_isPlace, .code yX6_isPlace cX6_isPlace 2 (some .boolean), .fieldLink RX6 15 "LineCites$Spans" "leasts" "[I", .fieldLink RX6 18 "LineCites$Spans" "greatests" "[I"] ++ wsX60 ++ wsX30)
set_option maxRecDepth 20000 in
theorem g_X6_fillWithLines_X6_clear : GoodIn w_X6_fillWithLines (wsV RX6 25 RX6 yX6_clear w_X6_clear) := goodIn_r _ [1, 2, 3, 4, 5, 6, 38, 39, 40, 41, 42, 43, 44, 45] rfl (by decide +kernel)
set_option maxRecDepth 20000 in
theorem g_X6_fillWithLines_X3_lines : GoodIn w_X6_fillWithLines (wsV RX6 28 RX3 yX3_lines w_X3_lines) := goodIn_r _ [7, 8, 9, 10, 11, 12, 46, 47, 48] rfl (by decide +kernel)
set_option maxRecDepth 20000 in
theorem g_X6_fillWithLines_X3_isNumbered : GoodIn w_X6_fillWithLines (wsV RX6 34 RX3 yX3_isNumbered w_X3_isNumbered) := goodIn_r _ [13, 14, 15, 10, 16, 17, 18, 19, 10, 20, 21, 46, 47, 48] rfl (by decide +kernel)
set_option maxRecDepth 20000 in
theorem g_X6_fillWithLines_X3_low : GoodIn w_X6_fillWithLines (wsV RX6 37 RX3 yX3_low w_X3_low) := goodIn_r _ [22, 18, 19, 10, 20, 21, 46, 47, 48] rfl (by decide +kernel)
set_option maxRecDepth 20000 in
theorem g_X6_fillWithLines_X3_high : GoodIn w_X6_fillWithLines (wsV RX6 41 RX3 yX3_high w_X3_high) := goodIn_r _ [23, 24, 25, 10, 26, 27, 46, 47, 48] rfl (by decide +kernel)
set_option maxRecDepth 20000 in
theorem g_X6_fillWithLines_X6_put : GoodIn w_X6_fillWithLines (wsV RX6 44 RX6 yX6_put w_X6_put) := goodIn_r _ [28, 29, 30, 4, 31, 32, 33, 34, 4, 35, 6, 36, 37, 38, 39, 40, 41, 42, 43, 44, 45] rfl (by decide +kernel)
set_option maxHeartbeats 4000000 in
set_option maxRecDepth 100000 in
theorem c_X6_fillWithLines (l : Launch) (D : va_G) (h0 : Nat) (a_o : Nat) (u_z : Nat) (u_l : Nat) (u_g : Nat) (u_at : Int32) (u_sf : Int32) (u_sm : Int32) (u_sl : Int32) (u_sh : Int32) (kI : ClassId) (g_u_z : Nat → Int32) (g_u_l : Nat → Int32) (g_u_g : Nat → Int32) (e_lo : Nat) (e_hi : Nat) (e_li : Int32) (g_e_lo : Nat → Int32) (g_e_hi : Nat → Int32) (sz : Nat) (hg_e_lo : bN g_e_lo) (hg_e_hi : bN g_e_hi) : Met l yX6_fillWithLines w_X6_fillWithLines ({ frames := 2, cells := 0, slots := 0, locals := 43 }) (va_Pc [.ref h0, .ref a_o] (fun U => U.heap.size = sz ∧ va_P D vwCl [(h0, .inr (6, [.ref u_z, .ref u_l, .ref u_g, .int u_at, .int u_sf, .int u_sm, .int u_sl, .int u_sh])), (u_z, .inl (kI, 1000, .inl g_u_z)), (u_l, .inl (kI, 1000, .inl g_u_l)), (u_g, .inl (kI, 1000, .inl g_u_g)), (a_o, .inr (3, [.ref e_lo, .ref e_hi, .int e_li])), (e_lo, .inl (kI, 200, .inl g_e_lo)), (e_hi, .inl (kI, 200, .inl g_e_hi))] U.heap ∧ va_K D vwCl [(kI, .int)] U ∧ va_D (fun _ => True) [(h0, .inr (6, [.ref u_z, .ref u_l, .ref u_g, .int u_at, .int u_sf, .int u_sm, .int u_sl, .int u_sh])), (u_z, .inl (kI, 1000, .inl g_u_z)), (u_l, .inl (kI, 1000, .inl g_u_l)), (u_g, .inl (kI, 1000, .inl g_u_g)), (a_o, .inr (3, [.ref e_lo, .ref e_hi, .int e_li])), (e_lo, .inl (kI, 200, .inl g_e_lo)), (e_hi, .inl (kI, 200, .inl g_e_hi))])) (va_Qv (fun (_ : Unit) => True) (fun (_ : Unit) t => ∃ (n_z : Nat → Int32) (n_ll : Nat → Int32) (n_gg : Nat → Int32), va_P D vwCl [(h0, .inr (6, [.ref u_z, .ref u_l, .ref u_g, .int u_at, .int u_sf, .int u_sm, .int u_sl, .int u_sh])), (u_z, .inl (kI, 1000, .inl n_z)), (u_l, .inl (kI, 1000, .inl n_ll)), (u_g, .inl (kI, 1000, .inl n_gg)), (a_o, .inr (3, [.ref e_lo, .ref e_hi, .int e_li])), (e_lo, .inl (kI, 200, .inl g_e_lo)), (e_hi, .inl (kI, 200, .inl g_e_hi))] t.heap ∧ va_K D vwCl [(kI, .int)] t ∧ va_D (va_A [(h0, .inr (6, [.ref u_z, .ref u_l, .ref u_g, .int u_at, .int u_sf, .int u_sm, .int u_sl, .int u_sh])), (u_z, .inl (kI, 1000, .inl g_u_z)), (u_l, .inl (kI, 1000, .inl g_u_l)), (u_g, .inl (kI, 1000, .inl g_u_g)), (a_o, .inr (3, [.ref e_lo, .ref e_hi, .int e_li])), (e_lo, .inl (kI, 200, .inl g_e_lo)), (e_hi, .inl (kI, 200, .inl g_e_hi))] sz) [(h0, .inr (6, [.ref u_z, .ref u_l, .ref u_g, .int u_at, .int u_sf, .int u_sm, .int u_sl, .int u_sh])), (u_z, .inl (kI, 1000, .inl n_z)), (u_l, .inl (kI, 1000, .inl n_ll)), (u_g, .inl (kI, 1000, .inl n_gg)), (a_o, .inr (3, [.ref e_lo, .ref e_hi, .int e_li])), (e_lo, .inl (kI, 200, .inl g_e_lo)), (e_hi, .inl (kI, 200, .inl g_e_hi))]) (va_A [(h0, .inr (6, [.ref u_z, .ref u_l, .ref u_g, .int u_at, .int u_sf, .int u_sm, .int u_sl, .int u_sh])), (u_z, .inl (kI, 1000, .inl g_u_z)), (u_l, .inl (kI, 1000, .inl g_u_l)), (u_g, .inl (kI, 1000, .inl g_u_g)), (a_o, .inr (3, [.ref e_lo, .ref e_hi, .int e_li])), (e_lo, .inl (kI, 200, .inl g_e_lo)), (e_hi, .inl (kI, 200, .inl g_e_hi))] sz)) 0 0 (va_A [(h0, .inr (6, [.ref u_z, .ref u_l, .ref u_g, .int u_at, .int u_sf, .int u_sm, .int u_sl, .int u_sh])), (u_z, .inl (kI, 1000, .inl g_u_z)), (u_l, .inl (kI, 1000, .inl g_u_l)), (u_g, .inl (kI, 1000, .inl g_u_g)), (a_o, .inr (3, [.ref e_lo, .ref e_hi, .int e_li])), (e_lo, .inl (kI, 200, .inl g_e_lo)), (e_hi, .inl (kI, 200, .inl g_e_hi))] sz) := by
  refine Met.ofW (cc := cX6_fillWithLines) (maxL := 4) (ret := none) (by decide) rfl ?_
  intro p e s m args below meth c s₁ B hml hv
  obtain ⟨rfl, hsz, hP, hK, hD0⟩ := hv
  have hx := B.exec
  have hb := B.bytes
  have hr := B.returns
  have hts := atoms_spec (ws := w_X6_fillWithLines) B.pre
  have hown : s.vm.findClass RX6 = some m.cls := findClass_of_methodNamed B.named
  have hlocks := B.notSynchronized
  subst hsz
  have hD := hD0.self (sz := s.heap.size)
  generalize hAe : va_A [(h0, .inr (6, [.ref u_z, .ref u_l, .ref u_g, .int u_at, .int u_sf, .int u_sm, .int u_sl, .int u_sh])), (u_z, .inl (kI, 1000, .inl g_u_z)), (u_l, .inl (kI, 1000, .inl g_u_l)), (u_g, .inl (kI, 1000, .inl g_u_g)), (a_o, .inr (3, [.ref e_lo, .ref e_hi, .int e_li])), (e_lo, .inl (kI, 200, .inl g_e_lo)), (e_hi, .inl (kI, 200, .inl g_e_hi))] s.heap.size = A at hD ⊢
  have hA : ∀ q : Nat, s.heap.size ≤ q → A q := fun q h => by rw [← hAe]; exact Or.inr h
  have hS : va_S A s.heap s.heap [] := va_S.rf
  have hP : va_P D vwCl [(h0, .inr (6, [.ref u_z, .ref u_l, .ref u_g, .int u_at, .int u_sf, .int u_sm, .int u_sl, .int u_sh])), (u_z, .inl (kI, 1000, .inl g_u_z)), (u_l, .inl (kI, 1000, .inl g_u_l)), (u_g, .inl (kI, 1000, .inl g_u_g)), (a_o, .inr (3, [.ref e_lo, .ref e_hi, .int e_li])), (e_lo, .inl (kI, 200, .inl g_e_lo)), (e_hi, .inl (kI, 200, .inl g_e_hi))] s.heap := hP
  have hl := lv_entry ([.ref h0, .ref a_o]) (n := 4) (Nat.le_of_ble_eq_true rfl)
  rw [lg_entry_eq]
  generalize (lg_sl ([.ref h0, .ref a_o]) ++ List.replicate (4 - (lg_sl ([.ref h0, .ref a_o])).length) Slot.unset).toArray = ls at hl ⊢
  have hl : lv_has ls 4 [(0, .ref h0), (1, .ref a_o)] := hl
  obtain ⟨H, hHe⟩ : ∃ H : Heap, H = s.heap := ⟨_, rfl⟩
  rw [← hHe] at hP
  have hS : va_S A s.heap H [] := by rw [hHe]; exact hS
  refine pw_heap hHe ?_
  refine lv_aload_n hx hb dX6_fillWithLines_0 rfl (lv_at hl 0 rfl) ?_
  have hPc := hP.sub (ws' := [(h0, .inr (6, [.ref u_z, .ref u_l, .ref u_g, .int u_at, .int u_sf, .int u_sm, .int u_sl, .int u_sh])), (u_z, .inl (kI, 1000, .inl g_u_z))]) [0, 1] rfl
  have hKc := hK.sub (tys' := [(kI, .int)]) [0] rfl
  have hDc := hD.sub (ws' := [(h0, .inr (6, [.ref u_z, .ref u_l, .ref u_g, .int u_at, .int u_sf, .int u_sm, .int u_sl, .int u_sh])), (u_z, .inl (kI, 1000, .inl g_u_z))]) [0, 1] (by decide) rfl
  have hFc := va_free (wc := [(h0, .inr (6, [.ref u_z, .ref u_l, .ref u_g, .int u_at, .int u_sf, .int u_sm, .int u_sl, .int u_sh])), (u_z, .inl (kI, 1000, .inl g_u_z))]) hD hS hA [0, 1] rfl
  refine va_callv (va_runV (As := []) (rest := []) ⟨hx, hb, hml, hown, hts⟩ (c_X6_clear l D h0 u_z u_l u_g u_at u_sf u_sm u_sl u_sh kI g_u_z H.size) (cwV 0 hts g_X6_fillWithLines_X6_clear rfl rfl rfl (by decide +kernel) ⟨Nat.le_of_ble_eq_true rfl, Nat.le_of_ble_eq_true rfl⟩) ⟨fun a U g mk q => by obtain ⟨q0, q1, qP, qK, qD⟩ := q; exact ⟨q0, q1, qP, va_K.moved (u := U) (U := U.calling g mk a) (Vm.Alike.refl U.vm) qK, qD⟩, va_recv hKc hPc (ci := 6) (q0 := 0) rfl rfl, fun U hU hW => ⟨rfl, by rw [hU], by rw [hU]; exact hPc, va_K.moved hW.alike hKc, hDc.weaken (fun _ _ _ _ => trivial)⟩⟩ rfl rfl hl.1 rfl (lv_room (Nat.le_of_ble_eq_true rfl)) dX6_fillWithLines_1 ⟨Nat.le_of_ble_eq_true rfl, Nat.le_of_ble_eq_true rfl⟩) hS (fun q _ h => hFc q h) hFc (fun u t H1 locs ht hvm hw hB hz1 hk1 hS => ?_)
  obtain ⟨y2, hP1, hK1, hD1⟩ := hB
  rw [ht] at hP1
  have hK1 := va_K.moved hvm.symm hK1
  obtain ⟨hP, hD⟩ := va_join (wr := [(u_l, .inl (kI, 1000, .inl g_u_l)), (u_g, .inl (kI, 1000, .inl g_u_g)), (a_o, .inr (3, [.ref e_lo, .ref e_hi, .int e_li])), (e_lo, .inl (kI, 200, .inl g_e_lo)), (e_hi, .inl (kI, 200, .inl g_e_hi))]) (w1 := [(h0, .inr (6, [.ref u_z, .ref u_l, .ref u_g, .int u_at, .int u_sf, .int u_sm, .int u_sl, .int u_sh])), (u_z, .inl (kI, 1000, .inl y2))]) hP hD [0, 1] [2, 3, 4, 5, 6] rfl rfl (by decide) (by decide) hk1 hFc hP1 hD1
  have hK := (hK.sub (tys' := [(kI, .int)]) [0] rfl).app hK1
  generalize H1 = H at hP hS ⊢
  have hP : va_P D vwCl [(u_l, .inl (kI, 1000, .inl g_u_l)), (u_g, .inl (kI, 1000, .inl g_u_g)), (a_o, .inr (3, [.ref e_lo, .ref e_hi, .int e_li])), (e_lo, .inl (kI, 200, .inl g_e_lo)), (e_hi, .inl (kI, 200, .inl g_e_hi)), (h0, .inr (6, [.ref u_z, .ref u_l, .ref u_g, .int u_at, .int u_sf, .int u_sm, .int u_sl, .int u_sh])), (u_z, .inl (kI, 1000, .inl y2))] H := hP
  have hD : va_D A [(u_l, .inl (kI, 1000, .inl g_u_l)), (u_g, .inl (kI, 1000, .inl g_u_g)), (a_o, .inr (3, [.ref e_lo, .ref e_hi, .int e_li])), (e_lo, .inl (kI, 200, .inl g_e_lo)), (e_hi, .inl (kI, 200, .inl g_e_hi)), (h0, .inr (6, [.ref u_z, .ref u_l, .ref u_g, .int u_at, .int u_sf, .int u_sm, .int u_sl, .int u_sh])), (u_z, .inl (kI, 1000, .inl y2))] := hD
  have hK : va_K D vwCl [(kI, .int), (kI, .int)] s := hK
  refine W.widen (k := 0) (n := 0) (Nat.le_of_ble_eq_true rfl) (Nat.le_of_ble_eq_true rfl) ?_
  refine lv_iconst (v := 0) hx hb dX6_fillWithLines_4 (by decide) ?_
  refine lv_istore_n (lv' := [(2, .int 0), (0, .ref h0), (1, .ref a_o)]) hx hb dX6_fillWithLines_5 rfl hl (by decide) rfl (fun ls hl => ?_)
  have hl9 : lv_has ls 4 [(0, .ref h0), (1, .ref a_o), (2, .int 0)] := lv_sub hl [1, 2, 0] rfl
  refine pw_loop (fun (zz : Int32 × (Nat → Int32) × (Nat → Int32) × (Nat → Int32)) H locs ls => match zz with | (v150, f151, f152, f153) => va_P D vwCl [(u_l, .inl (kI, 1000, .inl f151)), (u_g, .inl (kI, 1000, .inl f152)), (a_o, .inr (3, [.ref e_lo, .ref e_hi, .int e_li])), (e_lo, .inl (kI, 200, .inl g_e_lo)), (e_hi, .inl (kI, 200, .inl g_e_hi)), (h0, .inr (6, [.ref u_z, .ref u_l, .ref u_g, .int u_at, .int u_sf, .int u_sm, .int u_sl, .int u_sh])), (u_z, .inl (kI, 1000, .inl f153))] H ∧ va_D A [(u_l, .inl (kI, 1000, .inl f151)), (u_g, .inl (kI, 1000, .inl f152)), (a_o, .inr (3, [.ref e_lo, .ref e_hi, .int e_li])), (e_lo, .inl (kI, 200, .inl g_e_lo)), (e_hi, .inl (kI, 200, .inl g_e_hi)), (h0, .inr (6, [.ref u_z, .ref u_l, .ref u_g, .int u_at, .int u_sf, .int u_sm, .int u_sl, .int u_sh])), (u_z, .inl (kI, 1000, .inl f153))] ∧ va_S A s.heap H locs ∧ lv_has ls 4 [(0, .ref h0), (1, .ref a_o), (2, .int v150)] ∧ 0 ≤ v150.toInt) (fun (zz : Int32 × (Nat → Int32) × (Nat → Int32) × (Nat → Int32))  => match zz with | (v150, f151, f152, f153) => (2147483648 - v150.toInt).toNat) 0 0 (fun (zz : Int32 × (Nat → Int32) × (Nat → Int32) × (Nat → Int32)) ls => match zz with | (v150, f151, f152, f153) => F0 m 6 ls []) (fun zz H locs ls ih154 hI => ?_) (0, g_u_l, g_u_g, y2) _ _ _ ⟨hP, hD, hS, hl9, (by decide)⟩
  obtain ⟨v150, f151, f152, f153⟩ := zz
  obtain ⟨hP, hD, hS, hl, bv150⟩ := hI
  have bv150 : 0 ≤ v150.toInt := bv150
  have hP : va_P D vwCl [(u_l, .inl (kI, 1000, .inl f151)), (u_g, .inl (kI, 1000, .inl f152)), (a_o, .inr (3, [.ref e_lo, .ref e_hi, .int e_li])), (e_lo, .inl (kI, 200, .inl g_e_lo)), (e_hi, .inl (kI, 200, .inl g_e_hi)), (h0, .inr (6, [.ref u_z, .ref u_l, .ref u_g, .int u_at, .int u_sf, .int u_sm, .int u_sl, .int u_sh])), (u_z, .inl (kI, 1000, .inl f153))] H := hP
  have hD : va_D A [(u_l, .inl (kI, 1000, .inl f151)), (u_g, .inl (kI, 1000, .inl f152)), (a_o, .inr (3, [.ref e_lo, .ref e_hi, .int e_li])), (e_lo, .inl (kI, 200, .inl g_e_lo)), (e_hi, .inl (kI, 200, .inl g_e_hi)), (h0, .inr (6, [.ref u_z, .ref u_l, .ref u_g, .int u_at, .int u_sf, .int u_sm, .int u_sl, .int u_sh])), (u_z, .inl (kI, 1000, .inl f153))] := hD
  have hK : va_K D vwCl [(kI, .int), (kI, .int)] s := hK
  have hl : lv_has ls 4 [(0, .ref h0), (1, .ref a_o), (2, .int v150)] := hl
  refine W.eq (g2 := F0 m 6 ls []) rfl ?_
  refine lv_iload_n hx hb dX6_fillWithLines_6 rfl (lv_at hl 2 rfl) ?_
  refine lv_aload_n hx hb dX6_fillWithLines_7 rfl (lv_at hl 1 rfl) ?_
  have hPc := hP.sub (ws' := [(a_o, .inr (3, [.ref e_lo, .ref e_hi, .int e_li]))]) [2] rfl
  have hKc := hK.sub (tys' := []) [] rfl
  refine va_calli (va_runV (As := []) (rest := [.int v150]) ⟨hx, hb, hml, hown, hts⟩ (c_X3_lines l D a_o e_lo e_hi e_li) (cwV 0 hts g_X6_fillWithLines_X3_lines rfl rfl rfl (by decide +kernel) ⟨Nat.le_of_ble_eq_true rfl, Nat.le_of_ble_eq_true rfl⟩) ⟨fun a U g mk q => by obtain ⟨q0, qP, qK⟩ := q; exact ⟨q0, qP, va_K.moved (u := U) (U := U.calling g mk a) (Vm.Alike.refl U.vm) qK⟩, va_recv hKc hPc (ci := 3) (q0 := 0) rfl rfl, fun U hU hW => ⟨rfl, by rw [hU]; exact hPc, va_K.moved hW.alike hKc⟩⟩ rfl rfl hl.1 rfl (lv_room (Nat.le_of_ble_eq_true rfl)) dX6_fillWithLines_8 ⟨Nat.le_of_ble_eq_true rfl, Nat.le_of_ble_eq_true rfl⟩) hS (fun _ _ h => h.elim) (fun _ h => h.elim) (fun r155 u t H1 locs ht hvm hw hB hz1 hk1 hS => ?_)
  have hP := pw_keep hP (fun q hq => hk1 q hq (fun h => h))
  generalize H1 = H at hP hS ⊢
  refine W.widen (k := 0) (n := 0) (Nat.le_of_ble_eq_true rfl) (Nat.le_of_ble_eq_true rfl) ?_
  rw [show r155 = e_li from hw]
  refine lv_icmp_ge (tgt := 58) hx hb dX6_fillWithLines_11 (by decide) (fun c156 => ?_) (fun c156 => ?_)
  · have nc156 : e_li.toInt ≤ v150.toInt := pw_le c156 rfl rfl
    have mc156v150 := pw_max v150
    have mc156e_li := pw_max e_li
    have hP9 := hP.sub (ws' := [(h0, .inr (6, [.ref u_z, .ref u_l, .ref u_g, .int u_at, .int u_sf, .int u_sm, .int u_sl, .int u_sh])), (u_z, .inl (kI, 1000, .inl f153)), (u_l, .inl (kI, 1000, .inl f151)), (u_g, .inl (kI, 1000, .inl f152)), (a_o, .inr (3, [.ref e_lo, .ref e_hi, .int e_li])), (e_lo, .inl (kI, 200, .inl g_e_lo)), (e_hi, .inl (kI, 200, .inl g_e_hi))]) [5, 6, 0, 1, 2, 3, 4] rfl
    have hD9 := hD.sub (ws' := [(h0, .inr (6, [.ref u_z, .ref u_l, .ref u_g, .int u_at, .int u_sf, .int u_sm, .int u_sl, .int u_sh])), (u_z, .inl (kI, 1000, .inl f153)), (u_l, .inl (kI, 1000, .inl f151)), (u_g, .inl (kI, 1000, .inl f152)), (a_o, .inr (3, [.ref e_lo, .ref e_hi, .int e_li])), (e_lo, .inl (kI, 200, .inl g_e_lo)), (e_hi, .inl (kI, 200, .inl g_e_hi))]) [5, 6, 0, 1, 2, 3, 4] (by decide) rfl
    have hK9 := hK.sub (tys' := [(kI, .int)]) [0] rfl
    refine W.widen (k := 0) (n := 0) (Nat.le_of_ble_eq_true rfl) (Nat.le_of_ble_eq_true rfl) ?_
    exact W.vret hx hb hr (fun t ht hW => ⟨⟨(), rfl, trivial, f153, f151, f152, by rw [ht]; exact hP9, va_K.moved hW.alike hK9, hD9⟩, hS.F ht⟩) hS.2.2 dX6_fillWithLines_58
  · have nc156 : v150.toInt < e_li.toInt := pw_nle c156 rfl rfl
    have mc156v150 := pw_max v150
    have mc156e_li := pw_max e_li
    refine lv_aload_n hx hb dX6_fillWithLines_14 rfl (lv_at hl 1 rfl) ?_
    refine lv_iload_n hx hb dX6_fillWithLines_15 rfl (lv_at hl 2 rfl) ?_
    have hPc := hP.sub (ws' := [(a_o, .inr (3, [.ref e_lo, .ref e_hi, .int e_li])), (e_lo, .inl (kI, 200, .inl g_e_lo))]) [2, 3] rfl
    have hKc := hK.sub (tys' := [(kI, .int)]) [0] rfl
    refine va_calli (va_runV (As := [.int v150]) (rest := []) ⟨hx, hb, hml, hown, hts⟩ (c_X3_isNumbered l D a_o v150 e_lo e_hi e_li kI g_e_lo hg_e_lo) (cwV 1 hts g_X6_fillWithLines_X3_isNumbered rfl rfl rfl (by decide +kernel) ⟨Nat.le_of_ble_eq_true rfl, Nat.le_of_ble_eq_true rfl⟩) ⟨fun a U g mk q => by obtain ⟨q0, qP, qK⟩ := q; exact ⟨q0, qP, va_K.moved (u := U) (U := U.calling g mk a) (Vm.Alike.refl U.vm) qK⟩, va_recv hKc hPc (ci := 3) (q0 := 0) rfl rfl, fun U hU hW => ⟨rfl, by rw [hU]; exact hPc, va_K.moved hW.alike hKc⟩⟩ rfl rfl hl.1 rfl (lv_room (Nat.le_of_ble_eq_true rfl)) dX6_fillWithLines_16 ⟨Nat.le_of_ble_eq_true rfl, Nat.le_of_ble_eq_true rfl⟩) hS (fun _ _ h => h.elim) (fun _ h => h.elim) (fun r157 u t H1 locs ht hvm hw hB hz1 hk1 hS => ?_)
    have hP := pw_keep hP (fun q hq => hk1 q hq (fun h => h))
    generalize H1 = H at hP hS ⊢
    refine W.widen (k := 0) (n := 0) (Nat.le_of_ble_eq_true rfl) (Nat.le_of_ble_eq_true rfl) ?_
    have bor157 := hw.1
    have zor157 := pw_boolI bor157
    refine pw_join (fun (zz : (Nat → Int32) × (Nat → Int32) × (Nat → Int32)) H locs ls => match zz with | (f190, f191, f192) => va_P D vwCl [(u_l, .inl (kI, 1000, .inl f190)), (u_g, .inl (kI, 1000, .inl f191)), (a_o, .inr (3, [.ref e_lo, .ref e_hi, .int e_li])), (e_lo, .inl (kI, 200, .inl g_e_lo)), (e_hi, .inl (kI, 200, .inl g_e_hi)), (h0, .inr (6, [.ref u_z, .ref u_l, .ref u_g, .int u_at, .int u_sf, .int u_sm, .int u_sl, .int u_sh])), (u_z, .inl (kI, 1000, .inl f192))] H ∧ va_D A [(u_l, .inl (kI, 1000, .inl f190)), (u_g, .inl (kI, 1000, .inl f191)), (a_o, .inr (3, [.ref e_lo, .ref e_hi, .int e_li])), (e_lo, .inl (kI, 200, .inl g_e_lo)), (e_hi, .inl (kI, 200, .inl g_e_hi)), (h0, .inr (6, [.ref u_z, .ref u_l, .ref u_g, .int u_at, .int u_sf, .int u_sm, .int u_sl, .int u_sh])), (u_z, .inl (kI, 1000, .inl f192))] ∧ va_S A s.heap H locs ∧ lv_has ls 4 [(0, .ref h0), (1, .ref a_o), (2, .int v150)]) 0 0 (fun (zz : (Nat → Int32) × (Nat → Int32) × (Nat → Int32)) ls => match zz with | (f190, f191, f192) => F0 m 52 ls []) (fun zz H locs ls hI => ?_) (fun hJ193 => ?_)
    ·
      obtain ⟨f190, f191, f192⟩ := zz
      obtain ⟨hP, hD, hS, hl⟩ := hI
      have hP : va_P D vwCl [(u_l, .inl (kI, 1000, .inl f190)), (u_g, .inl (kI, 1000, .inl f191)), (a_o, .inr (3, [.ref e_lo, .ref e_hi, .int e_li])), (e_lo, .inl (kI, 200, .inl g_e_lo)), (e_hi, .inl (kI, 200, .inl g_e_hi)), (h0, .inr (6, [.ref u_z, .ref u_l, .ref u_g, .int u_at, .int u_sf, .int u_sm, .int u_sl, .int u_sh])), (u_z, .inl (kI, 1000, .inl f192))] H := hP
      have hD : va_D A [(u_l, .inl (kI, 1000, .inl f190)), (u_g, .inl (kI, 1000, .inl f191)), (a_o, .inr (3, [.ref e_lo, .ref e_hi, .int e_li])), (e_lo, .inl (kI, 200, .inl g_e_lo)), (e_hi, .inl (kI, 200, .inl g_e_hi)), (h0, .inr (6, [.ref u_z, .ref u_l, .ref u_g, .int u_at, .int u_sf, .int u_sm, .int u_sl, .int u_sh])), (u_z, .inl (kI, 1000, .inl f192))] := hD
      have hK : va_K D vwCl [(kI, .int), (kI, .int)] s := hK
      have hl : lv_has ls 4 [(0, .ref h0), (1, .ref a_o), (2, .int v150)] := hl
      refine W.eq (g2 := F0 m 52 ls []) rfl ?_
      obtain ⟨x194, ex194⟩ : ∃ y : Int32, y = v150 + 1 := ⟨_, rfl⟩
      refine lv_iinc (v := x194) (lv' := [(2, .int x194), (0, .ref h0), (1, .ref a_o)]) hx hb dX6_fillWithLines_52 hl (k := 2) rfl (by rw [ex194]; rfl) (by decide) rfl (fun ls hl => ?_)
      refine lv_goto (tgt := 6) hx hb dX6_fillWithLines_55 (by decide) ?_
      have hP9 : va_P D vwCl [(u_l, .inl (kI, 1000, .inl f190)), (u_g, .inl (kI, 1000, .inl f191)), (a_o, .inr (3, [.ref e_lo, .ref e_hi, .int e_li])), (e_lo, .inl (kI, 200, .inl g_e_lo)), (e_hi, .inl (kI, 200, .inl g_e_hi)), (h0, .inr (6, [.ref u_z, .ref u_l, .ref u_g, .int u_at, .int u_sf, .int u_sm, .int u_sl, .int u_sh])), (u_z, .inl (kI, 1000, .inl f192))] H := hP.sub [0, 1, 2, 3, 4, 5, 6] rfl
      have hD9 : va_D A [(u_l, .inl (kI, 1000, .inl f190)), (u_g, .inl (kI, 1000, .inl f191)), (a_o, .inr (3, [.ref e_lo, .ref e_hi, .int e_li])), (e_lo, .inl (kI, 200, .inl g_e_lo)), (e_hi, .inl (kI, 200, .inl g_e_hi)), (h0, .inr (6, [.ref u_z, .ref u_l, .ref u_g, .int u_at, .int u_sf, .int u_sm, .int u_sl, .int u_sh])), (u_z, .inl (kI, 1000, .inl f192))] := hD.sub [0, 1, 2, 3, 4, 5, 6] (by decide) rfl
      have hl9 : lv_has ls 4 [(0, .ref h0), (1, .ref a_o), (2, .int x194)] := lv_sub hl [1, 2, 0] rfl
      refine W.widen (k := 0) (n := 0) (Nat.le_of_ble_eq_true rfl) (Nat.le_of_ble_eq_true rfl) ?_
      exact ih154 (x194, f190, f191, f192) _ _ _ (pw_up ex194 (by omega)) ⟨hP9, hD9, hS, hl9, (pw_upge ex194 (by omega) (by omega))⟩
    ·
      refine lv_if_ne (tgt := 25) hx hb dX6_fillWithLines_19 (by decide) (fun c195 => ?_) (fun c195 => ?_)
      · have nc195 : r157.toInt ≠ 0 := pw_ne c195 rfl (by decide)
        refine lv_aload_n hx hb dX6_fillWithLines_25 rfl (lv_at hl 1 rfl) ?_
        refine lv_iload_n hx hb dX6_fillWithLines_26 rfl (lv_at hl 2 rfl) ?_
        have hPc := hP.sub (ws' := [(a_o, .inr (3, [.ref e_lo, .ref e_hi, .int e_li])), (e_lo, .inl (kI, 200, .inl g_e_lo))]) [2, 3] rfl
        have hKc := hK.sub (tys' := [(kI, .int)]) [0] rfl
        refine va_calli (va_runV (As := [.int v150]) (rest := []) ⟨hx, hb, hml, hown, hts⟩ (c_X3_low l D a_o v150 e_lo e_hi e_li kI g_e_lo hg_e_lo) (cwV 1 hts g_X6_fillWithLines_X3_low rfl rfl rfl (by decide +kernel) ⟨Nat.le_of_ble_eq_true rfl, Nat.le_of_ble_eq_true rfl⟩) ⟨fun a U g mk q => by obtain ⟨q0, qP, qK⟩ := q; exact ⟨q0, qP, va_K.moved (u := U) (U := U.calling g mk a) (Vm.Alike.refl U.vm) qK⟩, va_recv hKc hPc (ci := 3) (q0 := 0) rfl rfl, fun U hU hW => ⟨rfl, by rw [hU]; exact hPc, va_K.moved hW.alike hKc⟩⟩ rfl rfl hl.1 rfl (lv_room (Nat.le_of_ble_eq_true rfl)) dX6_fillWithLines_27 ⟨Nat.le_of_ble_eq_true rfl, Nat.le_of_ble_eq_true rfl⟩) hS (fun _ _ h => h.elim) (fun _ h => h.elim) (fun r196 u t H1 locs ht hvm hw hB hz1 hk1 hS => ?_)
        have hP := pw_keep hP (fun q hq => hk1 q hq (fun h => h))
        generalize H1 = H at hP hS ⊢
        refine W.widen (k := 0) (n := 0) (Nat.le_of_ble_eq_true rfl) (Nat.le_of_ble_eq_true rfl) ?_
        have hfr196 := hw
        refine lv_istore_n (lv' := [(3, .int r196), (0, .ref h0), (1, .ref a_o), (2, .int v150)]) hx hb dX6_fillWithLines_30 rfl hl (by decide) rfl (fun ls hl => ?_)
        have hl9 : lv_has ls 4 [(0, .ref h0), (1, .ref a_o), (2, .int v150), (3, .int r196)] := lv_sub hl [1, 2, 3, 0] rfl
        refine pw_loop (fun (zz : Int32 × (Nat → Int32) × (Nat → Int32) × (Nat → Int32)) H locs ls => match zz with | (v215, f216, f217, f218) => va_P D vwCl [(u_l, .inl (kI, 1000, .inl f216)), (u_g, .inl (kI, 1000, .inl f217)), (a_o, .inr (3, [.ref e_lo, .ref e_hi, .int e_li])), (e_lo, .inl (kI, 200, .inl g_e_lo)), (e_hi, .inl (kI, 200, .inl g_e_hi)), (h0, .inr (6, [.ref u_z, .ref u_l, .ref u_g, .int u_at, .int u_sf, .int u_sm, .int u_sl, .int u_sh])), (u_z, .inl (kI, 1000, .inl f218))] H ∧ va_D A [(u_l, .inl (kI, 1000, .inl f216)), (u_g, .inl (kI, 1000, .inl f217)), (a_o, .inr (3, [.ref e_lo, .ref e_hi, .int e_li])), (e_lo, .inl (kI, 200, .inl g_e_lo)), (e_hi, .inl (kI, 200, .inl g_e_hi)), (h0, .inr (6, [.ref u_z, .ref u_l, .ref u_g, .int u_at, .int u_sf, .int u_sm, .int u_sl, .int u_sh])), (u_z, .inl (kI, 1000, .inl f218))] ∧ va_S A s.heap H locs ∧ lv_has ls 4 [(0, .ref h0), (1, .ref a_o), (2, .int v150), (3, .int v215)]) (fun (zz : Int32 × (Nat → Int32) × (Nat → Int32) × (Nat → Int32))  => match zz with | (v215, f216, f217, f218) => (2147483648 - v215.toInt).toNat) 0 0 (fun (zz : Int32 × (Nat → Int32) × (Nat → Int32) × (Nat → Int32)) ls => match zz with | (v215, f216, f217, f218) => F0 m 31 ls []) (fun zz H locs ls ih219 hI => ?_) (r196, f151, f152, f153) _ _ _ ⟨hP, hD, hS, hl9⟩
        obtain ⟨v215, f216, f217, f218⟩ := zz
        obtain ⟨hP, hD, hS, hl⟩ := hI
        have hP : va_P D vwCl [(u_l, .inl (kI, 1000, .inl f216)), (u_g, .inl (kI, 1000, .inl f217)), (a_o, .inr (3, [.ref e_lo, .ref e_hi, .int e_li])), (e_lo, .inl (kI, 200, .inl g_e_lo)), (e_hi, .inl (kI, 200, .inl g_e_hi)), (h0, .inr (6, [.ref u_z, .ref u_l, .ref u_g, .int u_at, .int u_sf, .int u_sm, .int u_sl, .int u_sh])), (u_z, .inl (kI, 1000, .inl f218))] H := hP
        have hD : va_D A [(u_l, .inl (kI, 1000, .inl f216)), (u_g, .inl (kI, 1000, .inl f217)), (a_o, .inr (3, [.ref e_lo, .ref e_hi, .int e_li])), (e_lo, .inl (kI, 200, .inl g_e_lo)), (e_hi, .inl (kI, 200, .inl g_e_hi)), (h0, .inr (6, [.ref u_z, .ref u_l, .ref u_g, .int u_at, .int u_sf, .int u_sm, .int u_sl, .int u_sh])), (u_z, .inl (kI, 1000, .inl f218))] := hD
        have hK : va_K D vwCl [(kI, .int), (kI, .int)] s := hK
        have hl : lv_has ls 4 [(0, .ref h0), (1, .ref a_o), (2, .int v150), (3, .int v215)] := hl
        refine W.eq (g2 := F0 m 31 ls []) rfl ?_
        refine lv_iload_n hx hb dX6_fillWithLines_31 rfl (lv_at hl 3 rfl) ?_
        refine lv_aload_n hx hb dX6_fillWithLines_32 rfl (lv_at hl 1 rfl) ?_
        refine lv_iload_n hx hb dX6_fillWithLines_33 rfl (lv_at hl 2 rfl) ?_
        have hPc := hP.sub (ws' := [(a_o, .inr (3, [.ref e_lo, .ref e_hi, .int e_li])), (e_hi, .inl (kI, 200, .inl g_e_hi))]) [2, 4] rfl
        have hKc := hK.sub (tys' := [(kI, .int)]) [0] rfl
        refine va_calli (va_runV (As := [.int v150]) (rest := [.int v215]) ⟨hx, hb, hml, hown, hts⟩ (c_X3_high l D a_o v150 e_lo e_hi e_li kI g_e_hi hg_e_hi) (cwV 1 hts g_X6_fillWithLines_X3_high rfl rfl rfl (by decide +kernel) ⟨Nat.le_of_ble_eq_true rfl, Nat.le_of_ble_eq_true rfl⟩) ⟨fun a U g mk q => by obtain ⟨q0, qP, qK⟩ := q; exact ⟨q0, qP, va_K.moved (u := U) (U := U.calling g mk a) (Vm.Alike.refl U.vm) qK⟩, va_recv hKc hPc (ci := 3) (q0 := 0) rfl rfl, fun U hU hW => ⟨rfl, by rw [hU]; exact hPc, va_K.moved hW.alike hKc⟩⟩ rfl rfl hl.1 rfl (lv_room (Nat.le_of_ble_eq_true rfl)) dX6_fillWithLines_34 ⟨Nat.le_of_ble_eq_true rfl, Nat.le_of_ble_eq_true rfl⟩) hS (fun _ _ h => h.elim) (fun _ h => h.elim) (fun r220 u t H1 locs ht hvm hw hB hz1 hk1 hS => ?_)
        have hP := pw_keep hP (fun q hq => hk1 q hq (fun h => h))
        generalize H1 = H at hP hS ⊢
        refine W.widen (k := 0) (n := 0) (Nat.le_of_ble_eq_true rfl) (Nat.le_of_ble_eq_true rfl) ?_
        have hfr220 := hw
        refine lv_icmp_gt (tgt := 52) hx hb dX6_fillWithLines_37 (by decide) (fun c221 => ?_) (fun c221 => ?_)
        · have nc221 : r220.toInt < v215.toInt := pw_lt c221 rfl rfl
          have mc221v215 := pw_max v215
          have mc221r220 := pw_max r220
          have hP9 : va_P D vwCl [(u_l, .inl (kI, 1000, .inl f216)), (u_g, .inl (kI, 1000, .inl f217)), (a_o, .inr (3, [.ref e_lo, .ref e_hi, .int e_li])), (e_lo, .inl (kI, 200, .inl g_e_lo)), (e_hi, .inl (kI, 200, .inl g_e_hi)), (h0, .inr (6, [.ref u_z, .ref u_l, .ref u_g, .int u_at, .int u_sf, .int u_sm, .int u_sl, .int u_sh])), (u_z, .inl (kI, 1000, .inl f218))] H := hP.sub [0, 1, 2, 3, 4, 5, 6] rfl
          have hD9 : va_D A [(u_l, .inl (kI, 1000, .inl f216)), (u_g, .inl (kI, 1000, .inl f217)), (a_o, .inr (3, [.ref e_lo, .ref e_hi, .int e_li])), (e_lo, .inl (kI, 200, .inl g_e_lo)), (e_hi, .inl (kI, 200, .inl g_e_hi)), (h0, .inr (6, [.ref u_z, .ref u_l, .ref u_g, .int u_at, .int u_sf, .int u_sm, .int u_sl, .int u_sh])), (u_z, .inl (kI, 1000, .inl f218))] := hD.sub [0, 1, 2, 3, 4, 5, 6] (by decide) rfl
          have hl9 : lv_has ls 4 [(0, .ref h0), (1, .ref a_o), (2, .int v150)] := lv_sub hl [0, 1, 2] rfl
          refine W.widen (k := 0) (n := 0) (Nat.le_of_ble_eq_true rfl) (Nat.le_of_ble_eq_true rfl) ?_
          exact hJ193 (f216, f217, f218) _ _ _ ⟨hP9, hD9, hS, hl9⟩
        · have nc221 : v215.toInt ≤ r220.toInt := pw_nlt c221 rfl rfl
          have mc221v215 := pw_max v215
          have mc221r220 := pw_max r220
          refine lv_aload_n hx hb dX6_fillWithLines_40 rfl (lv_at hl 0 rfl) ?_
          refine lv_iload_n hx hb dX6_fillWithLines_41 rfl (lv_at hl 3 rfl) ?_
          refine lv_iload_n hx hb dX6_fillWithLines_42 rfl (lv_at hl 2 rfl) ?_
          have hPc := hP.sub (ws' := [(h0, .inr (6, [.ref u_z, .ref u_l, .ref u_g, .int u_at, .int u_sf, .int u_sm, .int u_sl, .int u_sh])), (u_z, .inl (kI, 1000, .inl f218)), (u_l, .inl (kI, 1000, .inl f216)), (u_g, .inl (kI, 1000, .inl f217))]) [5, 6, 0, 1] rfl
          have hKc := hK.sub (tys' := [(kI, .int)]) [0] rfl
          have hDc := hD.sub (ws' := [(h0, .inr (6, [.ref u_z, .ref u_l, .ref u_g, .int u_at, .int u_sf, .int u_sm, .int u_sl, .int u_sh])), (u_z, .inl (kI, 1000, .inl f218)), (u_l, .inl (kI, 1000, .inl f216)), (u_g, .inl (kI, 1000, .inl f217))]) [5, 6, 0, 1] (by decide) rfl
          have hFc := va_free (wc := [(h0, .inr (6, [.ref u_z, .ref u_l, .ref u_g, .int u_at, .int u_sf, .int u_sm, .int u_sl, .int u_sh])), (u_z, .inl (kI, 1000, .inl f218)), (u_l, .inl (kI, 1000, .inl f216)), (u_g, .inl (kI, 1000, .inl f217))]) hD hS hA [5, 6, 0, 1] rfl
          refine va_callv (va_runV (As := [.int v215, .int v150]) (rest := []) ⟨hx, hb, hml, hown, hts⟩ (c_X6_put l D h0 v215 v150 u_z u_l u_g u_at u_sf u_sm u_sl u_sh kI f218 f216 f217 H.size) (cwV 2 hts g_X6_fillWithLines_X6_put rfl rfl rfl (by decide +kernel) ⟨Nat.le_of_ble_eq_true rfl, Nat.le_of_ble_eq_true rfl⟩) ⟨fun a U g mk q => by obtain ⟨q0, q1, qP, qK, qD⟩ := q; exact ⟨q0, q1, qP, va_K.moved (u := U) (U := U.calling g mk a) (Vm.Alike.refl U.vm) qK, qD⟩, va_recv hKc hPc (ci := 6) (q0 := 0) rfl rfl, fun U hU hW => ⟨rfl, by rw [hU], by rw [hU]; exact hPc, va_K.moved hW.alike hKc, hDc.weaken (fun _ _ _ _ => trivial)⟩⟩ rfl rfl hl.1 rfl (lv_room (Nat.le_of_ble_eq_true rfl)) dX6_fillWithLines_43 ⟨Nat.le_of_ble_eq_true rfl, Nat.le_of_ble_eq_true rfl⟩) hS (fun q _ h => hFc q h) hFc (fun u t H1 locs ht hvm hw hB hz1 hk1 hS => ?_)
          obtain ⟨y223, y224, y225, hP1, hK1, hD1⟩ := hB
          rw [ht] at hP1
          have hK1 := va_K.moved hvm.symm hK1
          obtain ⟨hP, hD⟩ := va_join (wr := [(a_o, .inr (3, [.ref e_lo, .ref e_hi, .int e_li])), (e_lo, .inl (kI, 200, .inl g_e_lo)), (e_hi, .inl (kI, 200, .inl g_e_hi))]) (w1 := [(h0, .inr (6, [.ref u_z, .ref u_l, .ref u_g, .int u_at, .int u_sf, .int u_sm, .int u_sl, .int u_sh])), (u_z, .inl (kI, 1000, .inl y223)), (u_l, .inl (kI, 1000, .inl y224)), (u_g, .inl (kI, 1000, .inl y225))]) hP hD [5, 6, 0, 1] [2, 3, 4] rfl rfl (by decide) (by decide) hk1 hFc hP1 hD1
          have hK := (hK.sub (tys' := [(kI, .int), (kI, .int)]) [0, 1] rfl).app hK1
          generalize H1 = H at hP hS ⊢
          have hP : va_P D vwCl [(a_o, .inr (3, [.ref e_lo, .ref e_hi, .int e_li])), (e_lo, .inl (kI, 200, .inl g_e_lo)), (e_hi, .inl (kI, 200, .inl g_e_hi)), (h0, .inr (6, [.ref u_z, .ref u_l, .ref u_g, .int u_at, .int u_sf, .int u_sm, .int u_sl, .int u_sh])), (u_z, .inl (kI, 1000, .inl y223)), (u_l, .inl (kI, 1000, .inl y224)), (u_g, .inl (kI, 1000, .inl y225))] H := hP
          have hD : va_D A [(a_o, .inr (3, [.ref e_lo, .ref e_hi, .int e_li])), (e_lo, .inl (kI, 200, .inl g_e_lo)), (e_hi, .inl (kI, 200, .inl g_e_hi)), (h0, .inr (6, [.ref u_z, .ref u_l, .ref u_g, .int u_at, .int u_sf, .int u_sm, .int u_sl, .int u_sh])), (u_z, .inl (kI, 1000, .inl y223)), (u_l, .inl (kI, 1000, .inl y224)), (u_g, .inl (kI, 1000, .inl y225))] := hD
          have hK : va_K D vwCl [(kI, .int), (kI, .int), (kI, .int)] s := hK
          refine W.widen (k := 0) (n := 0) (Nat.le_of_ble_eq_true rfl) (Nat.le_of_ble_eq_true rfl) ?_
          obtain ⟨x226, ex226⟩ : ∃ y : Int32, y = v215 + 1 := ⟨_, rfl⟩
          refine lv_iinc (v := x226) (lv' := [(3, .int x226), (0, .ref h0), (1, .ref a_o), (2, .int v150)]) hx hb dX6_fillWithLines_46 hl (k := 3) rfl (by rw [ex226]; rfl) (by decide) rfl (fun ls hl => ?_)
          refine lv_goto (tgt := 31) hx hb dX6_fillWithLines_49 (by decide) ?_
          have hP9 : va_P D vwCl [(u_l, .inl (kI, 1000, .inl y224)), (u_g, .inl (kI, 1000, .inl y225)), (a_o, .inr (3, [.ref e_lo, .ref e_hi, .int e_li])), (e_lo, .inl (kI, 200, .inl g_e_lo)), (e_hi, .inl (kI, 200, .inl g_e_hi)), (h0, .inr (6, [.ref u_z, .ref u_l, .ref u_g, .int u_at, .int u_sf, .int u_sm, .int u_sl, .int u_sh])), (u_z, .inl (kI, 1000, .inl y223))] H := hP.sub [5, 6, 0, 1, 2, 3, 4] rfl
          have hD9 : va_D A [(u_l, .inl (kI, 1000, .inl y224)), (u_g, .inl (kI, 1000, .inl y225)), (a_o, .inr (3, [.ref e_lo, .ref e_hi, .int e_li])), (e_lo, .inl (kI, 200, .inl g_e_lo)), (e_hi, .inl (kI, 200, .inl g_e_hi)), (h0, .inr (6, [.ref u_z, .ref u_l, .ref u_g, .int u_at, .int u_sf, .int u_sm, .int u_sl, .int u_sh])), (u_z, .inl (kI, 1000, .inl y223))] := hD.sub [5, 6, 0, 1, 2, 3, 4] (by decide) rfl
          have hl9 : lv_has ls 4 [(0, .ref h0), (1, .ref a_o), (2, .int v150), (3, .int x226)] := lv_sub hl [1, 2, 3, 0] rfl
          refine W.widen (k := 0) (n := 0) (Nat.le_of_ble_eq_true rfl) (Nat.le_of_ble_eq_true rfl) ?_
          exact ih219 (x226, y224, y225, y223) _ _ _ (pw_up ex226 (by omega)) ⟨hP9, hD9, hS, hl9⟩
      · have nc195 : r157.toInt = 0 := pw_eq c195 rfl (by decide)
        refine lv_goto (tgt := 52) hx hb dX6_fillWithLines_22 (by decide) ?_
        have hP9 : va_P D vwCl [(u_l, .inl (kI, 1000, .inl f151)), (u_g, .inl (kI, 1000, .inl f152)), (a_o, .inr (3, [.ref e_lo, .ref e_hi, .int e_li])), (e_lo, .inl (kI, 200, .inl g_e_lo)), (e_hi, .inl (kI, 200, .inl g_e_hi)), (h0, .inr (6, [.ref u_z, .ref u_l, .ref u_g, .int u_at, .int u_sf, .int u_sm, .int u_sl, .int u_sh])), (u_z, .inl (kI, 1000, .inl f153))] H := hP.sub [0, 1, 2, 3, 4, 5, 6] rfl
        have hD9 : va_D A [(u_l, .inl (kI, 1000, .inl f151)), (u_g, .inl (kI, 1000, .inl f152)), (a_o, .inr (3, [.ref e_lo, .ref e_hi, .int e_li])), (e_lo, .inl (kI, 200, .inl g_e_lo)), (e_hi, .inl (kI, 200, .inl g_e_hi)), (h0, .inr (6, [.ref u_z, .ref u_l, .ref u_g, .int u_at, .int u_sf, .int u_sm, .int u_sl, .int u_sh])), (u_z, .inl (kI, 1000, .inl f153))] := hD.sub [0, 1, 2, 3, 4, 5, 6] (by decide) rfl
        have hl9 : lv_has ls 4 [(0, .ref h0), (1, .ref a_o), (2, .int v150)] := lv_sub hl [0, 1, 2] rfl
        refine W.widen (k := 0) (n := 0) (Nat.le_of_ble_eq_true rfl) (Nat.le_of_ble_eq_true rfl) ?_
        exact hJ193 (f151, f152, f153) _ _ _ ⟨hP9, hD9, hS, hl9⟩
def w_X6_fillWithNumbers : List Cond := .code yX6_fillWithNumbers cX6_fillWithNumbers 5 none :: ([.methodLink RX6 25 yX6_clear, .instanceMethod yX6_clear, .selects RX6 yX6_clear yX6_clear, .initialized RX6, .code yX6_clear cX6_clear 2 none, .fieldLink RX6 9 "LineCites$Spans" "sizes" "[I", .methodLink RX6 28 yX3_lines, .instanceMethod yX3_lines, .selects RX3 yX3_lines yX3_lines, .initialized RX3, .code yX3_lines cX3_lines 1 (some .int), .fieldLink RX3 24 "LineCites$Numbering" "lines" "I", .methodLink RX6 34 yX3_isNumbered, .instanceMethod yX3_isNumbered, .selects RX3 yX3_isNumbered yX3_isNumbered, .code yX3_isNumbered cX3_isNumbered 2 (some .boolean), .methodLink RX3 46 yX3_low, .instanceMethod yX3_low, .selects RX3 yX3_low yX3_low, .code yX3_low cX3_low 2 (some .int), .fieldLink RX3 9 "LineCites$Numbering" "lows" "[I", .methodLink RX6 37 yX3_low, .methodLink RX6 41 yX3_high, .instanceMethod yX3_high, .selects RX3 yX3_high yX3_high, .code yX3_high cX3_high 2 (some .int), .fieldLink RX3 15 "LineCites$Numbering" "highs" "[I", .methodLink RX6 44 yX6_put, .instanceMethod yX6_put, .selects RX6 yX6_put yX6_put, .code yX6_put cX6_put 3 none, .methodLink RX6 21 yX6_isPlace, .instanceMethod yX6_isPlace, .selects RX6 yX6_isPlace yX6_isPlace, .code yX6_isPlace cX6_isPlace 2 (some .boolean), .fieldLink RX6 15 "LineCites$Spans" "leasts" "[I", .fieldLink RX6 18 "LineCites$Spans" "greatests" "[I"] ++ wsX60 ++ wsX30)
set_option maxRecDepth 20000 in
theorem g_X6_fillWithNumbers_X6_clear : GoodIn w_X6_fillWithNumbers (wsV RX6 25 RX6 yX6_clear w_X6_clear) := goodIn_r _ [1, 2, 3, 4, 5, 6, 38, 39, 40, 41, 42, 43, 44, 45] rfl (by decide +kernel)
set_option maxRecDepth 20000 in
theorem g_X6_fillWithNumbers_X3_lines : GoodIn w_X6_fillWithNumbers (wsV RX6 28 RX3 yX3_lines w_X3_lines) := goodIn_r _ [7, 8, 9, 10, 11, 12, 46, 47, 48] rfl (by decide +kernel)
set_option maxRecDepth 20000 in
theorem g_X6_fillWithNumbers_X3_isNumbered : GoodIn w_X6_fillWithNumbers (wsV RX6 34 RX3 yX3_isNumbered w_X3_isNumbered) := goodIn_r _ [13, 14, 15, 10, 16, 17, 18, 19, 10, 20, 21, 46, 47, 48] rfl (by decide +kernel)
set_option maxRecDepth 20000 in
theorem g_X6_fillWithNumbers_X3_low : GoodIn w_X6_fillWithNumbers (wsV RX6 37 RX3 yX3_low w_X3_low) := goodIn_r _ [22, 18, 19, 10, 20, 21, 46, 47, 48] rfl (by decide +kernel)
set_option maxRecDepth 20000 in
theorem g_X6_fillWithNumbers_X3_high : GoodIn w_X6_fillWithNumbers (wsV RX6 41 RX3 yX3_high w_X3_high) := goodIn_r _ [23, 24, 25, 10, 26, 27, 46, 47, 48] rfl (by decide +kernel)
set_option maxRecDepth 20000 in
theorem g_X6_fillWithNumbers_X6_put : GoodIn w_X6_fillWithNumbers (wsV RX6 44 RX6 yX6_put w_X6_put) := goodIn_r _ [28, 29, 30, 4, 31, 32, 33, 34, 4, 35, 6, 36, 37, 38, 39, 40, 41, 42, 43, 44, 45] rfl (by decide +kernel)
set_option maxHeartbeats 4000000 in
set_option maxRecDepth 100000 in
theorem c_X6_fillWithNumbers (l : Launch) (D : va_G) (h0 : Nat) (a_a : Nat) (a_o : Nat) (u_z : Nat) (u_l : Nat) (u_g : Nat) (u_at : Int32) (u_sf : Int32) (u_sm : Int32) (u_sl : Int32) (u_sh : Int32) (kI : ClassId) (g_u_z : Nat → Int32) (g_u_l : Nat → Int32) (g_u_g : Nat → Int32) (f_lo : Nat) (f_hi : Nat) (f_li : Int32) (g_f_lo : Nat → Int32) (g_f_hi : Nat → Int32) (e_lo : Nat) (e_hi : Nat) (e_li : Int32) (g_e_lo : Nat → Int32) (g_e_hi : Nat → Int32) (sz : Nat) (hg_f_lo : bN g_f_lo) (hg_f_hi : bN g_f_hi) (hg_e_lo : bN g_e_lo) (hg_e_hi : bN g_e_hi) : Met l yX6_fillWithNumbers w_X6_fillWithNumbers ({ frames := 2, cells := 0, slots := 0, locals := 43 }) (va_Pc [.ref h0, .ref a_a, .ref a_o] (fun U => U.heap.size = sz ∧ va_P D vwCl [(h0, .inr (6, [.ref u_z, .ref u_l, .ref u_g, .int u_at, .int u_sf, .int u_sm, .int u_sl, .int u_sh])), (u_z, .inl (kI, 1000, .inl g_u_z)), (u_l, .inl (kI, 1000, .inl g_u_l)), (u_g, .inl (kI, 1000, .inl g_u_g)), (a_a, .inr (3, [.ref f_lo, .ref f_hi, .int f_li])), (f_lo, .inl (kI, 200, .inl g_f_lo)), (f_hi, .inl (kI, 200, .inl g_f_hi)), (a_o, .inr (3, [.ref e_lo, .ref e_hi, .int e_li])), (e_lo, .inl (kI, 200, .inl g_e_lo)), (e_hi, .inl (kI, 200, .inl g_e_hi))] U.heap ∧ va_K D vwCl [(kI, .int)] U ∧ va_D (fun _ => True) [(h0, .inr (6, [.ref u_z, .ref u_l, .ref u_g, .int u_at, .int u_sf, .int u_sm, .int u_sl, .int u_sh])), (u_z, .inl (kI, 1000, .inl g_u_z)), (u_l, .inl (kI, 1000, .inl g_u_l)), (u_g, .inl (kI, 1000, .inl g_u_g)), (a_a, .inr (3, [.ref f_lo, .ref f_hi, .int f_li])), (f_lo, .inl (kI, 200, .inl g_f_lo)), (f_hi, .inl (kI, 200, .inl g_f_hi)), (a_o, .inr (3, [.ref e_lo, .ref e_hi, .int e_li])), (e_lo, .inl (kI, 200, .inl g_e_lo)), (e_hi, .inl (kI, 200, .inl g_e_hi))])) (va_Qv (fun (_ : Unit) => True) (fun (_ : Unit) t => ∃ (n_z : Nat → Int32) (n_ll : Nat → Int32) (n_gg : Nat → Int32), va_P D vwCl [(h0, .inr (6, [.ref u_z, .ref u_l, .ref u_g, .int u_at, .int u_sf, .int u_sm, .int u_sl, .int u_sh])), (u_z, .inl (kI, 1000, .inl n_z)), (u_l, .inl (kI, 1000, .inl n_ll)), (u_g, .inl (kI, 1000, .inl n_gg)), (a_a, .inr (3, [.ref f_lo, .ref f_hi, .int f_li])), (f_lo, .inl (kI, 200, .inl g_f_lo)), (f_hi, .inl (kI, 200, .inl g_f_hi)), (a_o, .inr (3, [.ref e_lo, .ref e_hi, .int e_li])), (e_lo, .inl (kI, 200, .inl g_e_lo)), (e_hi, .inl (kI, 200, .inl g_e_hi))] t.heap ∧ va_K D vwCl [(kI, .int)] t ∧ va_D (va_A [(h0, .inr (6, [.ref u_z, .ref u_l, .ref u_g, .int u_at, .int u_sf, .int u_sm, .int u_sl, .int u_sh])), (u_z, .inl (kI, 1000, .inl g_u_z)), (u_l, .inl (kI, 1000, .inl g_u_l)), (u_g, .inl (kI, 1000, .inl g_u_g)), (a_a, .inr (3, [.ref f_lo, .ref f_hi, .int f_li])), (f_lo, .inl (kI, 200, .inl g_f_lo)), (f_hi, .inl (kI, 200, .inl g_f_hi)), (a_o, .inr (3, [.ref e_lo, .ref e_hi, .int e_li])), (e_lo, .inl (kI, 200, .inl g_e_lo)), (e_hi, .inl (kI, 200, .inl g_e_hi))] sz) [(h0, .inr (6, [.ref u_z, .ref u_l, .ref u_g, .int u_at, .int u_sf, .int u_sm, .int u_sl, .int u_sh])), (u_z, .inl (kI, 1000, .inl n_z)), (u_l, .inl (kI, 1000, .inl n_ll)), (u_g, .inl (kI, 1000, .inl n_gg)), (a_a, .inr (3, [.ref f_lo, .ref f_hi, .int f_li])), (f_lo, .inl (kI, 200, .inl g_f_lo)), (f_hi, .inl (kI, 200, .inl g_f_hi)), (a_o, .inr (3, [.ref e_lo, .ref e_hi, .int e_li])), (e_lo, .inl (kI, 200, .inl g_e_lo)), (e_hi, .inl (kI, 200, .inl g_e_hi))]) (va_A [(h0, .inr (6, [.ref u_z, .ref u_l, .ref u_g, .int u_at, .int u_sf, .int u_sm, .int u_sl, .int u_sh])), (u_z, .inl (kI, 1000, .inl g_u_z)), (u_l, .inl (kI, 1000, .inl g_u_l)), (u_g, .inl (kI, 1000, .inl g_u_g)), (a_a, .inr (3, [.ref f_lo, .ref f_hi, .int f_li])), (f_lo, .inl (kI, 200, .inl g_f_lo)), (f_hi, .inl (kI, 200, .inl g_f_hi)), (a_o, .inr (3, [.ref e_lo, .ref e_hi, .int e_li])), (e_lo, .inl (kI, 200, .inl g_e_lo)), (e_hi, .inl (kI, 200, .inl g_e_hi))] sz)) 0 0 (va_A [(h0, .inr (6, [.ref u_z, .ref u_l, .ref u_g, .int u_at, .int u_sf, .int u_sm, .int u_sl, .int u_sh])), (u_z, .inl (kI, 1000, .inl g_u_z)), (u_l, .inl (kI, 1000, .inl g_u_l)), (u_g, .inl (kI, 1000, .inl g_u_g)), (a_a, .inr (3, [.ref f_lo, .ref f_hi, .int f_li])), (f_lo, .inl (kI, 200, .inl g_f_lo)), (f_hi, .inl (kI, 200, .inl g_f_hi)), (a_o, .inr (3, [.ref e_lo, .ref e_hi, .int e_li])), (e_lo, .inl (kI, 200, .inl g_e_lo)), (e_hi, .inl (kI, 200, .inl g_e_hi))] sz) := by
  refine Met.ofW (cc := cX6_fillWithNumbers) (maxL := 5) (ret := none) (by decide) rfl ?_
  intro p e s m args below meth c s₁ B hml hv
  obtain ⟨rfl, hsz, hP, hK, hD0⟩ := hv
  have hx := B.exec
  have hb := B.bytes
  have hr := B.returns
  have hts := atoms_spec (ws := w_X6_fillWithNumbers) B.pre
  have hown : s.vm.findClass RX6 = some m.cls := findClass_of_methodNamed B.named
  have hlocks := B.notSynchronized
  subst hsz
  have hD := hD0.self (sz := s.heap.size)
  generalize hAe : va_A [(h0, .inr (6, [.ref u_z, .ref u_l, .ref u_g, .int u_at, .int u_sf, .int u_sm, .int u_sl, .int u_sh])), (u_z, .inl (kI, 1000, .inl g_u_z)), (u_l, .inl (kI, 1000, .inl g_u_l)), (u_g, .inl (kI, 1000, .inl g_u_g)), (a_a, .inr (3, [.ref f_lo, .ref f_hi, .int f_li])), (f_lo, .inl (kI, 200, .inl g_f_lo)), (f_hi, .inl (kI, 200, .inl g_f_hi)), (a_o, .inr (3, [.ref e_lo, .ref e_hi, .int e_li])), (e_lo, .inl (kI, 200, .inl g_e_lo)), (e_hi, .inl (kI, 200, .inl g_e_hi))] s.heap.size = A at hD ⊢
  have hA : ∀ q : Nat, s.heap.size ≤ q → A q := fun q h => by rw [← hAe]; exact Or.inr h
  have hS : va_S A s.heap s.heap [] := va_S.rf
  have hP : va_P D vwCl [(h0, .inr (6, [.ref u_z, .ref u_l, .ref u_g, .int u_at, .int u_sf, .int u_sm, .int u_sl, .int u_sh])), (u_z, .inl (kI, 1000, .inl g_u_z)), (u_l, .inl (kI, 1000, .inl g_u_l)), (u_g, .inl (kI, 1000, .inl g_u_g)), (a_a, .inr (3, [.ref f_lo, .ref f_hi, .int f_li])), (f_lo, .inl (kI, 200, .inl g_f_lo)), (f_hi, .inl (kI, 200, .inl g_f_hi)), (a_o, .inr (3, [.ref e_lo, .ref e_hi, .int e_li])), (e_lo, .inl (kI, 200, .inl g_e_lo)), (e_hi, .inl (kI, 200, .inl g_e_hi))] s.heap := hP
  have hl := lv_entry ([.ref h0, .ref a_a, .ref a_o]) (n := 5) (Nat.le_of_ble_eq_true rfl)
  rw [lg_entry_eq]
  generalize (lg_sl ([.ref h0, .ref a_a, .ref a_o]) ++ List.replicate (5 - (lg_sl ([.ref h0, .ref a_a, .ref a_o])).length) Slot.unset).toArray = ls at hl ⊢
  have hl : lv_has ls 5 [(0, .ref h0), (1, .ref a_a), (2, .ref a_o)] := hl
  obtain ⟨H, hHe⟩ : ∃ H : Heap, H = s.heap := ⟨_, rfl⟩
  rw [← hHe] at hP
  have hS : va_S A s.heap H [] := by rw [hHe]; exact hS
  refine pw_heap hHe ?_
  refine lv_aload_n hx hb dX6_fillWithNumbers_0 rfl (lv_at hl 0 rfl) ?_
  have hPc := hP.sub (ws' := [(h0, .inr (6, [.ref u_z, .ref u_l, .ref u_g, .int u_at, .int u_sf, .int u_sm, .int u_sl, .int u_sh])), (u_z, .inl (kI, 1000, .inl g_u_z))]) [0, 1] rfl
  have hKc := hK.sub (tys' := [(kI, .int)]) [0] rfl
  have hDc := hD.sub (ws' := [(h0, .inr (6, [.ref u_z, .ref u_l, .ref u_g, .int u_at, .int u_sf, .int u_sm, .int u_sl, .int u_sh])), (u_z, .inl (kI, 1000, .inl g_u_z))]) [0, 1] (by decide) rfl
  have hFc := va_free (wc := [(h0, .inr (6, [.ref u_z, .ref u_l, .ref u_g, .int u_at, .int u_sf, .int u_sm, .int u_sl, .int u_sh])), (u_z, .inl (kI, 1000, .inl g_u_z))]) hD hS hA [0, 1] rfl
  refine va_callv (va_runV (As := []) (rest := []) ⟨hx, hb, hml, hown, hts⟩ (c_X6_clear l D h0 u_z u_l u_g u_at u_sf u_sm u_sl u_sh kI g_u_z H.size) (cwV 0 hts g_X6_fillWithNumbers_X6_clear rfl rfl rfl (by decide +kernel) ⟨Nat.le_of_ble_eq_true rfl, Nat.le_of_ble_eq_true rfl⟩) ⟨fun a U g mk q => by obtain ⟨q0, q1, qP, qK, qD⟩ := q; exact ⟨q0, q1, qP, va_K.moved (u := U) (U := U.calling g mk a) (Vm.Alike.refl U.vm) qK, qD⟩, va_recv hKc hPc (ci := 6) (q0 := 0) rfl rfl, fun U hU hW => ⟨rfl, by rw [hU], by rw [hU]; exact hPc, va_K.moved hW.alike hKc, hDc.weaken (fun _ _ _ _ => trivial)⟩⟩ rfl rfl hl.1 rfl (lv_room (Nat.le_of_ble_eq_true rfl)) dX6_fillWithNumbers_1 ⟨Nat.le_of_ble_eq_true rfl, Nat.le_of_ble_eq_true rfl⟩) hS (fun q _ h => hFc q h) hFc (fun u t H1 locs ht hvm hw hB hz1 hk1 hS => ?_)
  obtain ⟨y2, hP1, hK1, hD1⟩ := hB
  rw [ht] at hP1
  have hK1 := va_K.moved hvm.symm hK1
  obtain ⟨hP, hD⟩ := va_join (wr := [(u_l, .inl (kI, 1000, .inl g_u_l)), (u_g, .inl (kI, 1000, .inl g_u_g)), (a_a, .inr (3, [.ref f_lo, .ref f_hi, .int f_li])), (f_lo, .inl (kI, 200, .inl g_f_lo)), (f_hi, .inl (kI, 200, .inl g_f_hi)), (a_o, .inr (3, [.ref e_lo, .ref e_hi, .int e_li])), (e_lo, .inl (kI, 200, .inl g_e_lo)), (e_hi, .inl (kI, 200, .inl g_e_hi))]) (w1 := [(h0, .inr (6, [.ref u_z, .ref u_l, .ref u_g, .int u_at, .int u_sf, .int u_sm, .int u_sl, .int u_sh])), (u_z, .inl (kI, 1000, .inl y2))]) hP hD [0, 1] [2, 3, 4, 5, 6, 7, 8, 9] rfl rfl (by decide) (by decide) hk1 hFc hP1 hD1
  have hK := (hK.sub (tys' := [(kI, .int)]) [0] rfl).app hK1
  generalize H1 = H at hP hS ⊢
  have hP : va_P D vwCl [(u_l, .inl (kI, 1000, .inl g_u_l)), (u_g, .inl (kI, 1000, .inl g_u_g)), (a_a, .inr (3, [.ref f_lo, .ref f_hi, .int f_li])), (f_lo, .inl (kI, 200, .inl g_f_lo)), (f_hi, .inl (kI, 200, .inl g_f_hi)), (a_o, .inr (3, [.ref e_lo, .ref e_hi, .int e_li])), (e_lo, .inl (kI, 200, .inl g_e_lo)), (e_hi, .inl (kI, 200, .inl g_e_hi)), (h0, .inr (6, [.ref u_z, .ref u_l, .ref u_g, .int u_at, .int u_sf, .int u_sm, .int u_sl, .int u_sh])), (u_z, .inl (kI, 1000, .inl y2))] H := hP
  have hD : va_D A [(u_l, .inl (kI, 1000, .inl g_u_l)), (u_g, .inl (kI, 1000, .inl g_u_g)), (a_a, .inr (3, [.ref f_lo, .ref f_hi, .int f_li])), (f_lo, .inl (kI, 200, .inl g_f_lo)), (f_hi, .inl (kI, 200, .inl g_f_hi)), (a_o, .inr (3, [.ref e_lo, .ref e_hi, .int e_li])), (e_lo, .inl (kI, 200, .inl g_e_lo)), (e_hi, .inl (kI, 200, .inl g_e_hi)), (h0, .inr (6, [.ref u_z, .ref u_l, .ref u_g, .int u_at, .int u_sf, .int u_sm, .int u_sl, .int u_sh])), (u_z, .inl (kI, 1000, .inl y2))] := hD
  have hK : va_K D vwCl [(kI, .int), (kI, .int)] s := hK
  refine W.widen (k := 0) (n := 0) (Nat.le_of_ble_eq_true rfl) (Nat.le_of_ble_eq_true rfl) ?_
  refine lv_iconst (v := 0) hx hb dX6_fillWithNumbers_4 (by decide) ?_
  refine lv_istore_n (lv' := [(3, .int 0), (0, .ref h0), (1, .ref a_a), (2, .ref a_o)]) hx hb dX6_fillWithNumbers_5 rfl hl (by decide) rfl (fun ls hl => ?_)
  have hl9 : lv_has ls 5 [(0, .ref h0), (1, .ref a_a), (2, .ref a_o), (3, .int 0)] := lv_sub hl [1, 2, 3, 0] rfl
  refine pw_loop (fun (zz : Int32 × (Nat → Int32) × (Nat → Int32) × (Nat → Int32)) H locs ls => match zz with | (v230, f231, f232, f233) => va_P D vwCl [(u_l, .inl (kI, 1000, .inl f231)), (u_g, .inl (kI, 1000, .inl f232)), (a_a, .inr (3, [.ref f_lo, .ref f_hi, .int f_li])), (f_lo, .inl (kI, 200, .inl g_f_lo)), (f_hi, .inl (kI, 200, .inl g_f_hi)), (a_o, .inr (3, [.ref e_lo, .ref e_hi, .int e_li])), (e_lo, .inl (kI, 200, .inl g_e_lo)), (e_hi, .inl (kI, 200, .inl g_e_hi)), (h0, .inr (6, [.ref u_z, .ref u_l, .ref u_g, .int u_at, .int u_sf, .int u_sm, .int u_sl, .int u_sh])), (u_z, .inl (kI, 1000, .inl f233))] H ∧ va_D A [(u_l, .inl (kI, 1000, .inl f231)), (u_g, .inl (kI, 1000, .inl f232)), (a_a, .inr (3, [.ref f_lo, .ref f_hi, .int f_li])), (f_lo, .inl (kI, 200, .inl g_f_lo)), (f_hi, .inl (kI, 200, .inl g_f_hi)), (a_o, .inr (3, [.ref e_lo, .ref e_hi, .int e_li])), (e_lo, .inl (kI, 200, .inl g_e_lo)), (e_hi, .inl (kI, 200, .inl g_e_hi)), (h0, .inr (6, [.ref u_z, .ref u_l, .ref u_g, .int u_at, .int u_sf, .int u_sm, .int u_sl, .int u_sh])), (u_z, .inl (kI, 1000, .inl f233))] ∧ va_S A s.heap H locs ∧ lv_has ls 5 [(0, .ref h0), (1, .ref a_a), (2, .ref a_o), (3, .int v230)] ∧ 0 ≤ v230.toInt) (fun (zz : Int32 × (Nat → Int32) × (Nat → Int32) × (Nat → Int32))  => match zz with | (v230, f231, f232, f233) => (2147483648 - v230.toInt).toNat) 0 0 (fun (zz : Int32 × (Nat → Int32) × (Nat → Int32) × (Nat → Int32)) ls => match zz with | (v230, f231, f232, f233) => F0 m 6 ls []) (fun zz H locs ls ih234 hI => ?_) (0, g_u_l, g_u_g, y2) _ _ _ ⟨hP, hD, hS, hl9, (by decide)⟩
  obtain ⟨v230, f231, f232, f233⟩ := zz
  obtain ⟨hP, hD, hS, hl, bv230⟩ := hI
  have bv230 : 0 ≤ v230.toInt := bv230
  have hP : va_P D vwCl [(u_l, .inl (kI, 1000, .inl f231)), (u_g, .inl (kI, 1000, .inl f232)), (a_a, .inr (3, [.ref f_lo, .ref f_hi, .int f_li])), (f_lo, .inl (kI, 200, .inl g_f_lo)), (f_hi, .inl (kI, 200, .inl g_f_hi)), (a_o, .inr (3, [.ref e_lo, .ref e_hi, .int e_li])), (e_lo, .inl (kI, 200, .inl g_e_lo)), (e_hi, .inl (kI, 200, .inl g_e_hi)), (h0, .inr (6, [.ref u_z, .ref u_l, .ref u_g, .int u_at, .int u_sf, .int u_sm, .int u_sl, .int u_sh])), (u_z, .inl (kI, 1000, .inl f233))] H := hP
  have hD : va_D A [(u_l, .inl (kI, 1000, .inl f231)), (u_g, .inl (kI, 1000, .inl f232)), (a_a, .inr (3, [.ref f_lo, .ref f_hi, .int f_li])), (f_lo, .inl (kI, 200, .inl g_f_lo)), (f_hi, .inl (kI, 200, .inl g_f_hi)), (a_o, .inr (3, [.ref e_lo, .ref e_hi, .int e_li])), (e_lo, .inl (kI, 200, .inl g_e_lo)), (e_hi, .inl (kI, 200, .inl g_e_hi)), (h0, .inr (6, [.ref u_z, .ref u_l, .ref u_g, .int u_at, .int u_sf, .int u_sm, .int u_sl, .int u_sh])), (u_z, .inl (kI, 1000, .inl f233))] := hD
  have hK : va_K D vwCl [(kI, .int), (kI, .int)] s := hK
  have hl : lv_has ls 5 [(0, .ref h0), (1, .ref a_a), (2, .ref a_o), (3, .int v230)] := hl
  refine W.eq (g2 := F0 m 6 ls []) rfl ?_
  refine lv_iload_n hx hb dX6_fillWithNumbers_6 rfl (lv_at hl 3 rfl) ?_
  refine lv_aload_n hx hb dX6_fillWithNumbers_7 rfl (lv_at hl 1 rfl) ?_
  have hPc := hP.sub (ws' := [(a_a, .inr (3, [.ref f_lo, .ref f_hi, .int f_li]))]) [2] rfl
  have hKc := hK.sub (tys' := []) [] rfl
  refine va_calli (va_runV (As := []) (rest := [.int v230]) ⟨hx, hb, hml, hown, hts⟩ (c_X3_lines l D a_a f_lo f_hi f_li) (cwV 0 hts g_X6_fillWithNumbers_X3_lines rfl rfl rfl (by decide +kernel) ⟨Nat.le_of_ble_eq_true rfl, Nat.le_of_ble_eq_true rfl⟩) ⟨fun a U g mk q => by obtain ⟨q0, qP, qK⟩ := q; exact ⟨q0, qP, va_K.moved (u := U) (U := U.calling g mk a) (Vm.Alike.refl U.vm) qK⟩, va_recv hKc hPc (ci := 3) (q0 := 0) rfl rfl, fun U hU hW => ⟨rfl, by rw [hU]; exact hPc, va_K.moved hW.alike hKc⟩⟩ rfl rfl hl.1 rfl (lv_room (Nat.le_of_ble_eq_true rfl)) dX6_fillWithNumbers_8 ⟨Nat.le_of_ble_eq_true rfl, Nat.le_of_ble_eq_true rfl⟩) hS (fun _ _ h => h.elim) (fun _ h => h.elim) (fun r235 u t H1 locs ht hvm hw hB hz1 hk1 hS => ?_)
  have hP := pw_keep hP (fun q hq => hk1 q hq (fun h => h))
  generalize H1 = H at hP hS ⊢
  refine W.widen (k := 0) (n := 0) (Nat.le_of_ble_eq_true rfl) (Nat.le_of_ble_eq_true rfl) ?_
  rw [show r235 = f_li from hw]
  refine lv_icmp_ge (tgt := 84) hx hb dX6_fillWithNumbers_11 (by decide) (fun c236 => ?_) (fun c236 => ?_)
  · have nc236 : f_li.toInt ≤ v230.toInt := pw_le c236 rfl rfl
    have mc236v230 := pw_max v230
    have mc236f_li := pw_max f_li
    have hP9 := hP.sub (ws' := [(h0, .inr (6, [.ref u_z, .ref u_l, .ref u_g, .int u_at, .int u_sf, .int u_sm, .int u_sl, .int u_sh])), (u_z, .inl (kI, 1000, .inl f233)), (u_l, .inl (kI, 1000, .inl f231)), (u_g, .inl (kI, 1000, .inl f232)), (a_a, .inr (3, [.ref f_lo, .ref f_hi, .int f_li])), (f_lo, .inl (kI, 200, .inl g_f_lo)), (f_hi, .inl (kI, 200, .inl g_f_hi)), (a_o, .inr (3, [.ref e_lo, .ref e_hi, .int e_li])), (e_lo, .inl (kI, 200, .inl g_e_lo)), (e_hi, .inl (kI, 200, .inl g_e_hi))]) [8, 9, 0, 1, 2, 3, 4, 5, 6, 7] rfl
    have hD9 := hD.sub (ws' := [(h0, .inr (6, [.ref u_z, .ref u_l, .ref u_g, .int u_at, .int u_sf, .int u_sm, .int u_sl, .int u_sh])), (u_z, .inl (kI, 1000, .inl f233)), (u_l, .inl (kI, 1000, .inl f231)), (u_g, .inl (kI, 1000, .inl f232)), (a_a, .inr (3, [.ref f_lo, .ref f_hi, .int f_li])), (f_lo, .inl (kI, 200, .inl g_f_lo)), (f_hi, .inl (kI, 200, .inl g_f_hi)), (a_o, .inr (3, [.ref e_lo, .ref e_hi, .int e_li])), (e_lo, .inl (kI, 200, .inl g_e_lo)), (e_hi, .inl (kI, 200, .inl g_e_hi))]) [8, 9, 0, 1, 2, 3, 4, 5, 6, 7] (by decide) rfl
    have hK9 := hK.sub (tys' := [(kI, .int)]) [0] rfl
    refine W.widen (k := 0) (n := 0) (Nat.le_of_ble_eq_true rfl) (Nat.le_of_ble_eq_true rfl) ?_
    exact W.vret hx hb hr (fun t ht hW => ⟨⟨(), rfl, trivial, f233, f231, f232, by rw [ht]; exact hP9, va_K.moved hW.alike hK9, hD9⟩, hS.F ht⟩) hS.2.2 dX6_fillWithNumbers_84
  · have nc236 : v230.toInt < f_li.toInt := pw_nle c236 rfl rfl
    have mc236v230 := pw_max v230
    have mc236f_li := pw_max f_li
    refine lv_aload_n hx hb dX6_fillWithNumbers_14 rfl (lv_at hl 1 rfl) ?_
    refine lv_iload_n hx hb dX6_fillWithNumbers_15 rfl (lv_at hl 3 rfl) ?_
    have hPc := hP.sub (ws' := [(a_a, .inr (3, [.ref f_lo, .ref f_hi, .int f_li])), (f_lo, .inl (kI, 200, .inl g_f_lo))]) [2, 3] rfl
    have hKc := hK.sub (tys' := [(kI, .int)]) [0] rfl
    refine va_calli (va_runV (As := [.int v230]) (rest := []) ⟨hx, hb, hml, hown, hts⟩ (c_X3_isNumbered l D a_a v230 f_lo f_hi f_li kI g_f_lo hg_f_lo) (cwV 1 hts g_X6_fillWithNumbers_X3_isNumbered rfl rfl rfl (by decide +kernel) ⟨Nat.le_of_ble_eq_true rfl, Nat.le_of_ble_eq_true rfl⟩) ⟨fun a U g mk q => by obtain ⟨q0, qP, qK⟩ := q; exact ⟨q0, qP, va_K.moved (u := U) (U := U.calling g mk a) (Vm.Alike.refl U.vm) qK⟩, va_recv hKc hPc (ci := 3) (q0 := 0) rfl rfl, fun U hU hW => ⟨rfl, by rw [hU]; exact hPc, va_K.moved hW.alike hKc⟩⟩ rfl rfl hl.1 rfl (lv_room (Nat.le_of_ble_eq_true rfl)) dX6_fillWithNumbers_16 ⟨Nat.le_of_ble_eq_true rfl, Nat.le_of_ble_eq_true rfl⟩) hS (fun _ _ h => h.elim) (fun _ h => h.elim) (fun r237 u t H1 locs ht hvm hw hB hz1 hk1 hS => ?_)
    have hP := pw_keep hP (fun q hq => hk1 q hq (fun h => h))
    generalize H1 = H at hP hS ⊢
    refine W.widen (k := 0) (n := 0) (Nat.le_of_ble_eq_true rfl) (Nat.le_of_ble_eq_true rfl) ?_
    have bor237 := hw.1
    have zor237 := pw_boolI bor237
    refine pw_join (fun (zz : (Nat → Int32) × (Nat → Int32) × (Nat → Int32)) H locs ls => match zz with | (f290, f291, f292) => va_P D vwCl [(u_l, .inl (kI, 1000, .inl f290)), (u_g, .inl (kI, 1000, .inl f291)), (a_a, .inr (3, [.ref f_lo, .ref f_hi, .int f_li])), (f_lo, .inl (kI, 200, .inl g_f_lo)), (f_hi, .inl (kI, 200, .inl g_f_hi)), (a_o, .inr (3, [.ref e_lo, .ref e_hi, .int e_li])), (e_lo, .inl (kI, 200, .inl g_e_lo)), (e_hi, .inl (kI, 200, .inl g_e_hi)), (h0, .inr (6, [.ref u_z, .ref u_l, .ref u_g, .int u_at, .int u_sf, .int u_sm, .int u_sl, .int u_sh])), (u_z, .inl (kI, 1000, .inl f292))] H ∧ va_D A [(u_l, .inl (kI, 1000, .inl f290)), (u_g, .inl (kI, 1000, .inl f291)), (a_a, .inr (3, [.ref f_lo, .ref f_hi, .int f_li])), (f_lo, .inl (kI, 200, .inl g_f_lo)), (f_hi, .inl (kI, 200, .inl g_f_hi)), (a_o, .inr (3, [.ref e_lo, .ref e_hi, .int e_li])), (e_lo, .inl (kI, 200, .inl g_e_lo)), (e_hi, .inl (kI, 200, .inl g_e_hi)), (h0, .inr (6, [.ref u_z, .ref u_l, .ref u_g, .int u_at, .int u_sf, .int u_sm, .int u_sl, .int u_sh])), (u_z, .inl (kI, 1000, .inl f292))] ∧ va_S A s.heap H locs ∧ lv_has ls 5 [(0, .ref h0), (1, .ref a_a), (2, .ref a_o), (3, .int v230)]) 0 0 (fun (zz : (Nat → Int32) × (Nat → Int32) × (Nat → Int32)) ls => match zz with | (f290, f291, f292) => F0 m 78 ls []) (fun zz H locs ls hI => ?_) (fun hJ293 => ?_)
    ·
      obtain ⟨f290, f291, f292⟩ := zz
      obtain ⟨hP, hD, hS, hl⟩ := hI
      have hP : va_P D vwCl [(u_l, .inl (kI, 1000, .inl f290)), (u_g, .inl (kI, 1000, .inl f291)), (a_a, .inr (3, [.ref f_lo, .ref f_hi, .int f_li])), (f_lo, .inl (kI, 200, .inl g_f_lo)), (f_hi, .inl (kI, 200, .inl g_f_hi)), (a_o, .inr (3, [.ref e_lo, .ref e_hi, .int e_li])), (e_lo, .inl (kI, 200, .inl g_e_lo)), (e_hi, .inl (kI, 200, .inl g_e_hi)), (h0, .inr (6, [.ref u_z, .ref u_l, .ref u_g, .int u_at, .int u_sf, .int u_sm, .int u_sl, .int u_sh])), (u_z, .inl (kI, 1000, .inl f292))] H := hP
      have hD : va_D A [(u_l, .inl (kI, 1000, .inl f290)), (u_g, .inl (kI, 1000, .inl f291)), (a_a, .inr (3, [.ref f_lo, .ref f_hi, .int f_li])), (f_lo, .inl (kI, 200, .inl g_f_lo)), (f_hi, .inl (kI, 200, .inl g_f_hi)), (a_o, .inr (3, [.ref e_lo, .ref e_hi, .int e_li])), (e_lo, .inl (kI, 200, .inl g_e_lo)), (e_hi, .inl (kI, 200, .inl g_e_hi)), (h0, .inr (6, [.ref u_z, .ref u_l, .ref u_g, .int u_at, .int u_sf, .int u_sm, .int u_sl, .int u_sh])), (u_z, .inl (kI, 1000, .inl f292))] := hD
      have hK : va_K D vwCl [(kI, .int), (kI, .int)] s := hK
      have hl : lv_has ls 5 [(0, .ref h0), (1, .ref a_a), (2, .ref a_o), (3, .int v230)] := hl
      refine W.eq (g2 := F0 m 78 ls []) rfl ?_
      obtain ⟨x294, ex294⟩ : ∃ y : Int32, y = v230 + 1 := ⟨_, rfl⟩
      refine lv_iinc (v := x294) (lv' := [(3, .int x294), (0, .ref h0), (1, .ref a_a), (2, .ref a_o)]) hx hb dX6_fillWithNumbers_78 hl (k := 3) rfl (by rw [ex294]; rfl) (by decide) rfl (fun ls hl => ?_)
      refine lv_goto (tgt := 6) hx hb dX6_fillWithNumbers_81 (by decide) ?_
      have hP9 : va_P D vwCl [(u_l, .inl (kI, 1000, .inl f290)), (u_g, .inl (kI, 1000, .inl f291)), (a_a, .inr (3, [.ref f_lo, .ref f_hi, .int f_li])), (f_lo, .inl (kI, 200, .inl g_f_lo)), (f_hi, .inl (kI, 200, .inl g_f_hi)), (a_o, .inr (3, [.ref e_lo, .ref e_hi, .int e_li])), (e_lo, .inl (kI, 200, .inl g_e_lo)), (e_hi, .inl (kI, 200, .inl g_e_hi)), (h0, .inr (6, [.ref u_z, .ref u_l, .ref u_g, .int u_at, .int u_sf, .int u_sm, .int u_sl, .int u_sh])), (u_z, .inl (kI, 1000, .inl f292))] H := hP.sub [0, 1, 2, 3, 4, 5, 6, 7, 8, 9] rfl
      have hD9 : va_D A [(u_l, .inl (kI, 1000, .inl f290)), (u_g, .inl (kI, 1000, .inl f291)), (a_a, .inr (3, [.ref f_lo, .ref f_hi, .int f_li])), (f_lo, .inl (kI, 200, .inl g_f_lo)), (f_hi, .inl (kI, 200, .inl g_f_hi)), (a_o, .inr (3, [.ref e_lo, .ref e_hi, .int e_li])), (e_lo, .inl (kI, 200, .inl g_e_lo)), (e_hi, .inl (kI, 200, .inl g_e_hi)), (h0, .inr (6, [.ref u_z, .ref u_l, .ref u_g, .int u_at, .int u_sf, .int u_sm, .int u_sl, .int u_sh])), (u_z, .inl (kI, 1000, .inl f292))] := hD.sub [0, 1, 2, 3, 4, 5, 6, 7, 8, 9] (by decide) rfl
      have hl9 : lv_has ls 5 [(0, .ref h0), (1, .ref a_a), (2, .ref a_o), (3, .int x294)] := lv_sub hl [1, 2, 3, 0] rfl
      refine W.widen (k := 0) (n := 0) (Nat.le_of_ble_eq_true rfl) (Nat.le_of_ble_eq_true rfl) ?_
      exact ih234 (x294, f290, f291, f292) _ _ _ (pw_up ex294 (by omega)) ⟨hP9, hD9, hS, hl9, (pw_upge ex294 (by omega) (by omega))⟩
    ·
      refine lv_if_eq (tgt := 78) hx hb dX6_fillWithNumbers_19 (by decide) (fun c295 => ?_) (fun c295 => ?_)
      · have nc295 : r237.toInt = 0 := pw_eq c295 rfl (by decide)
        have hP9 : va_P D vwCl [(u_l, .inl (kI, 1000, .inl f231)), (u_g, .inl (kI, 1000, .inl f232)), (a_a, .inr (3, [.ref f_lo, .ref f_hi, .int f_li])), (f_lo, .inl (kI, 200, .inl g_f_lo)), (f_hi, .inl (kI, 200, .inl g_f_hi)), (a_o, .inr (3, [.ref e_lo, .ref e_hi, .int e_li])), (e_lo, .inl (kI, 200, .inl g_e_lo)), (e_hi, .inl (kI, 200, .inl g_e_hi)), (h0, .inr (6, [.ref u_z, .ref u_l, .ref u_g, .int u_at, .int u_sf, .int u_sm, .int u_sl, .int u_sh])), (u_z, .inl (kI, 1000, .inl f233))] H := hP.sub [0, 1, 2, 3, 4, 5, 6, 7, 8, 9] rfl
        have hD9 : va_D A [(u_l, .inl (kI, 1000, .inl f231)), (u_g, .inl (kI, 1000, .inl f232)), (a_a, .inr (3, [.ref f_lo, .ref f_hi, .int f_li])), (f_lo, .inl (kI, 200, .inl g_f_lo)), (f_hi, .inl (kI, 200, .inl g_f_hi)), (a_o, .inr (3, [.ref e_lo, .ref e_hi, .int e_li])), (e_lo, .inl (kI, 200, .inl g_e_lo)), (e_hi, .inl (kI, 200, .inl g_e_hi)), (h0, .inr (6, [.ref u_z, .ref u_l, .ref u_g, .int u_at, .int u_sf, .int u_sm, .int u_sl, .int u_sh])), (u_z, .inl (kI, 1000, .inl f233))] := hD.sub [0, 1, 2, 3, 4, 5, 6, 7, 8, 9] (by decide) rfl
        have hl9 : lv_has ls 5 [(0, .ref h0), (1, .ref a_a), (2, .ref a_o), (3, .int v230)] := lv_sub hl [0, 1, 2, 3] rfl
        refine W.widen (k := 0) (n := 0) (Nat.le_of_ble_eq_true rfl) (Nat.le_of_ble_eq_true rfl) ?_
        exact hJ293 (f231, f232, f233) _ _ _ ⟨hP9, hD9, hS, hl9⟩
      · have nc295 : r237.toInt ≠ 0 := pw_ne c295 rfl (by decide)
        refine lv_aload_n hx hb dX6_fillWithNumbers_22 rfl (lv_at hl 2 rfl) ?_
        refine lv_iload_n hx hb dX6_fillWithNumbers_23 rfl (lv_at hl 3 rfl) ?_
        have hPc := hP.sub (ws' := [(a_o, .inr (3, [.ref e_lo, .ref e_hi, .int e_li])), (e_lo, .inl (kI, 200, .inl g_e_lo))]) [5, 6] rfl
        have hKc := hK.sub (tys' := [(kI, .int)]) [0] rfl
        refine va_calli (va_runV (As := [.int v230]) (rest := []) ⟨hx, hb, hml, hown, hts⟩ (c_X3_isNumbered l D a_o v230 e_lo e_hi e_li kI g_e_lo hg_e_lo) (cwV 1 hts g_X6_fillWithNumbers_X3_isNumbered rfl rfl rfl (by decide +kernel) ⟨Nat.le_of_ble_eq_true rfl, Nat.le_of_ble_eq_true rfl⟩) ⟨fun a U g mk q => by obtain ⟨q0, qP, qK⟩ := q; exact ⟨q0, qP, va_K.moved (u := U) (U := U.calling g mk a) (Vm.Alike.refl U.vm) qK⟩, va_recv hKc hPc (ci := 3) (q0 := 0) rfl rfl, fun U hU hW => ⟨rfl, by rw [hU]; exact hPc, va_K.moved hW.alike hKc⟩⟩ rfl rfl hl.1 rfl (lv_room (Nat.le_of_ble_eq_true rfl)) dX6_fillWithNumbers_24 ⟨Nat.le_of_ble_eq_true rfl, Nat.le_of_ble_eq_true rfl⟩) hS (fun _ _ h => h.elim) (fun _ h => h.elim) (fun r296 u t H1 locs ht hvm hw hB hz1 hk1 hS => ?_)
        have hP := pw_keep hP (fun q hq => hk1 q hq (fun h => h))
        generalize H1 = H at hP hS ⊢
        refine W.widen (k := 0) (n := 0) (Nat.le_of_ble_eq_true rfl) (Nat.le_of_ble_eq_true rfl) ?_
        have bor296 := hw.1
        have zor296 := pw_boolI bor296
        refine lv_if_ne (tgt := 33) hx hb dX6_fillWithNumbers_27 (by decide) (fun c297 => ?_) (fun c297 => ?_)
        · have nc297 : r296.toInt ≠ 0 := pw_ne c297 rfl (by decide)
          refine lv_aload_n hx hb dX6_fillWithNumbers_33 rfl (lv_at hl 1 rfl) ?_
          refine lv_iload_n hx hb dX6_fillWithNumbers_34 rfl (lv_at hl 3 rfl) ?_
          have hPc := hP.sub (ws' := [(a_a, .inr (3, [.ref f_lo, .ref f_hi, .int f_li])), (f_lo, .inl (kI, 200, .inl g_f_lo))]) [2, 3] rfl
          have hKc := hK.sub (tys' := [(kI, .int)]) [0] rfl
          refine va_calli (va_runV (As := [.int v230]) (rest := []) ⟨hx, hb, hml, hown, hts⟩ (c_X3_low l D a_a v230 f_lo f_hi f_li kI g_f_lo hg_f_lo) (cwV 1 hts g_X6_fillWithNumbers_X3_low rfl rfl rfl (by decide +kernel) ⟨Nat.le_of_ble_eq_true rfl, Nat.le_of_ble_eq_true rfl⟩) ⟨fun a U g mk q => by obtain ⟨q0, qP, qK⟩ := q; exact ⟨q0, qP, va_K.moved (u := U) (U := U.calling g mk a) (Vm.Alike.refl U.vm) qK⟩, va_recv hKc hPc (ci := 3) (q0 := 0) rfl rfl, fun U hU hW => ⟨rfl, by rw [hU]; exact hPc, va_K.moved hW.alike hKc⟩⟩ rfl rfl hl.1 rfl (lv_room (Nat.le_of_ble_eq_true rfl)) dX6_fillWithNumbers_35 ⟨Nat.le_of_ble_eq_true rfl, Nat.le_of_ble_eq_true rfl⟩) hS (fun _ _ h => h.elim) (fun _ h => h.elim) (fun r298 u t H1 locs ht hvm hw hB hz1 hk1 hS => ?_)
          have hP := pw_keep hP (fun q hq => hk1 q hq (fun h => h))
          generalize H1 = H at hP hS ⊢
          refine W.widen (k := 0) (n := 0) (Nat.le_of_ble_eq_true rfl) (Nat.le_of_ble_eq_true rfl) ?_
          have hfr298 := hw
          refine lv_istore (lv' := [(4, .int r298), (0, .ref h0), (1, .ref a_a), (2, .ref a_o), (3, .int v230)]) hx hb dX6_fillWithNumbers_38 hl (by decide) rfl (fun ls hl => ?_)
          have hl9 : lv_has ls 5 [(0, .ref h0), (1, .ref a_a), (2, .ref a_o), (3, .int v230), (4, .int r298)] := lv_sub hl [1, 2, 3, 4, 0] rfl
          refine pw_loop (fun (zz : Int32 × (Nat → Int32) × (Nat → Int32) × (Nat → Int32)) H locs ls => match zz with | (v329, f330, f331, f332) => va_P D vwCl [(u_l, .inl (kI, 1000, .inl f330)), (u_g, .inl (kI, 1000, .inl f331)), (a_a, .inr (3, [.ref f_lo, .ref f_hi, .int f_li])), (f_lo, .inl (kI, 200, .inl g_f_lo)), (f_hi, .inl (kI, 200, .inl g_f_hi)), (a_o, .inr (3, [.ref e_lo, .ref e_hi, .int e_li])), (e_lo, .inl (kI, 200, .inl g_e_lo)), (e_hi, .inl (kI, 200, .inl g_e_hi)), (h0, .inr (6, [.ref u_z, .ref u_l, .ref u_g, .int u_at, .int u_sf, .int u_sm, .int u_sl, .int u_sh])), (u_z, .inl (kI, 1000, .inl f332))] H ∧ va_D A [(u_l, .inl (kI, 1000, .inl f330)), (u_g, .inl (kI, 1000, .inl f331)), (a_a, .inr (3, [.ref f_lo, .ref f_hi, .int f_li])), (f_lo, .inl (kI, 200, .inl g_f_lo)), (f_hi, .inl (kI, 200, .inl g_f_hi)), (a_o, .inr (3, [.ref e_lo, .ref e_hi, .int e_li])), (e_lo, .inl (kI, 200, .inl g_e_lo)), (e_hi, .inl (kI, 200, .inl g_e_hi)), (h0, .inr (6, [.ref u_z, .ref u_l, .ref u_g, .int u_at, .int u_sf, .int u_sm, .int u_sl, .int u_sh])), (u_z, .inl (kI, 1000, .inl f332))] ∧ va_S A s.heap H locs ∧ lv_has ls 5 [(0, .ref h0), (1, .ref a_a), (2, .ref a_o), (3, .int v230), (4, .int v329)]) (fun (zz : Int32 × (Nat → Int32) × (Nat → Int32) × (Nat → Int32))  => match zz with | (v329, f330, f331, f332) => (2147483648 - v329.toInt).toNat) 0 0 (fun (zz : Int32 × (Nat → Int32) × (Nat → Int32) × (Nat → Int32)) ls => match zz with | (v329, f330, f331, f332) => F0 m 40 ls []) (fun zz H locs ls ih333 hI => ?_) (r298, f231, f232, f233) _ _ _ ⟨hP, hD, hS, hl9⟩
          obtain ⟨v329, f330, f331, f332⟩ := zz
          obtain ⟨hP, hD, hS, hl⟩ := hI
          have hP : va_P D vwCl [(u_l, .inl (kI, 1000, .inl f330)), (u_g, .inl (kI, 1000, .inl f331)), (a_a, .inr (3, [.ref f_lo, .ref f_hi, .int f_li])), (f_lo, .inl (kI, 200, .inl g_f_lo)), (f_hi, .inl (kI, 200, .inl g_f_hi)), (a_o, .inr (3, [.ref e_lo, .ref e_hi, .int e_li])), (e_lo, .inl (kI, 200, .inl g_e_lo)), (e_hi, .inl (kI, 200, .inl g_e_hi)), (h0, .inr (6, [.ref u_z, .ref u_l, .ref u_g, .int u_at, .int u_sf, .int u_sm, .int u_sl, .int u_sh])), (u_z, .inl (kI, 1000, .inl f332))] H := hP
          have hD : va_D A [(u_l, .inl (kI, 1000, .inl f330)), (u_g, .inl (kI, 1000, .inl f331)), (a_a, .inr (3, [.ref f_lo, .ref f_hi, .int f_li])), (f_lo, .inl (kI, 200, .inl g_f_lo)), (f_hi, .inl (kI, 200, .inl g_f_hi)), (a_o, .inr (3, [.ref e_lo, .ref e_hi, .int e_li])), (e_lo, .inl (kI, 200, .inl g_e_lo)), (e_hi, .inl (kI, 200, .inl g_e_hi)), (h0, .inr (6, [.ref u_z, .ref u_l, .ref u_g, .int u_at, .int u_sf, .int u_sm, .int u_sl, .int u_sh])), (u_z, .inl (kI, 1000, .inl f332))] := hD
          have hK : va_K D vwCl [(kI, .int), (kI, .int)] s := hK
          have hl : lv_has ls 5 [(0, .ref h0), (1, .ref a_a), (2, .ref a_o), (3, .int v230), (4, .int v329)] := hl
          refine W.eq (g2 := F0 m 40 ls []) rfl ?_
          refine lv_iload hx hb dX6_fillWithNumbers_40 (lv_at hl 4 rfl) ?_
          refine lv_aload_n hx hb dX6_fillWithNumbers_42 rfl (lv_at hl 1 rfl) ?_
          refine lv_iload_n hx hb dX6_fillWithNumbers_43 rfl (lv_at hl 3 rfl) ?_
          have hPc := hP.sub (ws' := [(a_a, .inr (3, [.ref f_lo, .ref f_hi, .int f_li])), (f_hi, .inl (kI, 200, .inl g_f_hi))]) [2, 4] rfl
          have hKc := hK.sub (tys' := [(kI, .int)]) [0] rfl
          refine va_calli (va_runV (As := [.int v230]) (rest := [.int v329]) ⟨hx, hb, hml, hown, hts⟩ (c_X3_high l D a_a v230 f_lo f_hi f_li kI g_f_hi hg_f_hi) (cwV 1 hts g_X6_fillWithNumbers_X3_high rfl rfl rfl (by decide +kernel) ⟨Nat.le_of_ble_eq_true rfl, Nat.le_of_ble_eq_true rfl⟩) ⟨fun a U g mk q => by obtain ⟨q0, qP, qK⟩ := q; exact ⟨q0, qP, va_K.moved (u := U) (U := U.calling g mk a) (Vm.Alike.refl U.vm) qK⟩, va_recv hKc hPc (ci := 3) (q0 := 0) rfl rfl, fun U hU hW => ⟨rfl, by rw [hU]; exact hPc, va_K.moved hW.alike hKc⟩⟩ rfl rfl hl.1 rfl (lv_room (Nat.le_of_ble_eq_true rfl)) dX6_fillWithNumbers_44 ⟨Nat.le_of_ble_eq_true rfl, Nat.le_of_ble_eq_true rfl⟩) hS (fun _ _ h => h.elim) (fun _ h => h.elim) (fun r334 u t H1 locs ht hvm hw hB hz1 hk1 hS => ?_)
          have hP := pw_keep hP (fun q hq => hk1 q hq (fun h => h))
          generalize H1 = H at hP hS ⊢
          refine W.widen (k := 0) (n := 0) (Nat.le_of_ble_eq_true rfl) (Nat.le_of_ble_eq_true rfl) ?_
          have hfr334 := hw
          refine lv_icmp_gt (tgt := 78) hx hb dX6_fillWithNumbers_47 (by decide) (fun c335 => ?_) (fun c335 => ?_)
          · have nc335 : r334.toInt < v329.toInt := pw_lt c335 rfl rfl
            have mc335v329 := pw_max v329
            have mc335r334 := pw_max r334
            have hP9 : va_P D vwCl [(u_l, .inl (kI, 1000, .inl f330)), (u_g, .inl (kI, 1000, .inl f331)), (a_a, .inr (3, [.ref f_lo, .ref f_hi, .int f_li])), (f_lo, .inl (kI, 200, .inl g_f_lo)), (f_hi, .inl (kI, 200, .inl g_f_hi)), (a_o, .inr (3, [.ref e_lo, .ref e_hi, .int e_li])), (e_lo, .inl (kI, 200, .inl g_e_lo)), (e_hi, .inl (kI, 200, .inl g_e_hi)), (h0, .inr (6, [.ref u_z, .ref u_l, .ref u_g, .int u_at, .int u_sf, .int u_sm, .int u_sl, .int u_sh])), (u_z, .inl (kI, 1000, .inl f332))] H := hP.sub [0, 1, 2, 3, 4, 5, 6, 7, 8, 9] rfl
            have hD9 : va_D A [(u_l, .inl (kI, 1000, .inl f330)), (u_g, .inl (kI, 1000, .inl f331)), (a_a, .inr (3, [.ref f_lo, .ref f_hi, .int f_li])), (f_lo, .inl (kI, 200, .inl g_f_lo)), (f_hi, .inl (kI, 200, .inl g_f_hi)), (a_o, .inr (3, [.ref e_lo, .ref e_hi, .int e_li])), (e_lo, .inl (kI, 200, .inl g_e_lo)), (e_hi, .inl (kI, 200, .inl g_e_hi)), (h0, .inr (6, [.ref u_z, .ref u_l, .ref u_g, .int u_at, .int u_sf, .int u_sm, .int u_sl, .int u_sh])), (u_z, .inl (kI, 1000, .inl f332))] := hD.sub [0, 1, 2, 3, 4, 5, 6, 7, 8, 9] (by decide) rfl
            have hl9 : lv_has ls 5 [(0, .ref h0), (1, .ref a_a), (2, .ref a_o), (3, .int v230)] := lv_sub hl [0, 1, 2, 3] rfl
            refine W.widen (k := 0) (n := 0) (Nat.le_of_ble_eq_true rfl) (Nat.le_of_ble_eq_true rfl) ?_
            exact hJ293 (f330, f331, f332) _ _ _ ⟨hP9, hD9, hS, hl9⟩
          · have nc335 : v329.toInt ≤ r334.toInt := pw_nlt c335 rfl rfl
            have mc335v329 := pw_max v329
            have mc335r334 := pw_max r334
            refine lv_aload_n hx hb dX6_fillWithNumbers_50 rfl (lv_at hl 0 rfl) ?_
            refine lv_iload hx hb dX6_fillWithNumbers_51 (lv_at hl 4 rfl) ?_
            refine lv_aload_n hx hb dX6_fillWithNumbers_53 rfl (lv_at hl 2 rfl) ?_
            refine lv_iload_n hx hb dX6_fillWithNumbers_54 rfl (lv_at hl 3 rfl) ?_
            have hPc := hP.sub (ws' := [(a_o, .inr (3, [.ref e_lo, .ref e_hi, .int e_li])), (e_lo, .inl (kI, 200, .inl g_e_lo))]) [5, 6] rfl
            have hKc := hK.sub (tys' := [(kI, .int)]) [0] rfl
            refine va_calli (va_runV (As := [.int v230]) (rest := [.int v329, .ref h0]) ⟨hx, hb, hml, hown, hts⟩ (c_X3_low l D a_o v230 e_lo e_hi e_li kI g_e_lo hg_e_lo) (cwV 1 hts g_X6_fillWithNumbers_X3_low rfl rfl rfl (by decide +kernel) ⟨Nat.le_of_ble_eq_true rfl, Nat.le_of_ble_eq_true rfl⟩) ⟨fun a U g mk q => by obtain ⟨q0, qP, qK⟩ := q; exact ⟨q0, qP, va_K.moved (u := U) (U := U.calling g mk a) (Vm.Alike.refl U.vm) qK⟩, va_recv hKc hPc (ci := 3) (q0 := 0) rfl rfl, fun U hU hW => ⟨rfl, by rw [hU]; exact hPc, va_K.moved hW.alike hKc⟩⟩ rfl rfl hl.1 rfl (lv_room (Nat.le_of_ble_eq_true rfl)) dX6_fillWithNumbers_55 ⟨Nat.le_of_ble_eq_true rfl, Nat.le_of_ble_eq_true rfl⟩) hS (fun _ _ h => h.elim) (fun _ h => h.elim) (fun r336 u t H1 locs ht hvm hw hB hz1 hk1 hS => ?_)
            have hP := pw_keep hP (fun q hq => hk1 q hq (fun h => h))
            generalize H1 = H at hP hS ⊢
            refine W.widen (k := 0) (n := 0) (Nat.le_of_ble_eq_true rfl) (Nat.le_of_ble_eq_true rfl) ?_
            have hfr336 := hw
            have hPc := hP.sub (ws' := [(h0, .inr (6, [.ref u_z, .ref u_l, .ref u_g, .int u_at, .int u_sf, .int u_sm, .int u_sl, .int u_sh])), (u_z, .inl (kI, 1000, .inl f332)), (u_l, .inl (kI, 1000, .inl f330)), (u_g, .inl (kI, 1000, .inl f331))]) [8, 9, 0, 1] rfl
            have hKc := hK.sub (tys' := [(kI, .int)]) [0] rfl
            have hDc := hD.sub (ws' := [(h0, .inr (6, [.ref u_z, .ref u_l, .ref u_g, .int u_at, .int u_sf, .int u_sm, .int u_sl, .int u_sh])), (u_z, .inl (kI, 1000, .inl f332)), (u_l, .inl (kI, 1000, .inl f330)), (u_g, .inl (kI, 1000, .inl f331))]) [8, 9, 0, 1] (by decide) rfl
            have hFc := va_free (wc := [(h0, .inr (6, [.ref u_z, .ref u_l, .ref u_g, .int u_at, .int u_sf, .int u_sm, .int u_sl, .int u_sh])), (u_z, .inl (kI, 1000, .inl f332)), (u_l, .inl (kI, 1000, .inl f330)), (u_g, .inl (kI, 1000, .inl f331))]) hD hS hA [8, 9, 0, 1] rfl
            refine va_callv (va_runV (As := [.int v329, .int r336]) (rest := []) ⟨hx, hb, hml, hown, hts⟩ (c_X6_put l D h0 v329 r336 u_z u_l u_g u_at u_sf u_sm u_sl u_sh kI f332 f330 f331 H.size) (cwV 2 hts g_X6_fillWithNumbers_X6_put rfl rfl rfl (by decide +kernel) ⟨Nat.le_of_ble_eq_true rfl, Nat.le_of_ble_eq_true rfl⟩) ⟨fun a U g mk q => by obtain ⟨q0, q1, qP, qK, qD⟩ := q; exact ⟨q0, q1, qP, va_K.moved (u := U) (U := U.calling g mk a) (Vm.Alike.refl U.vm) qK, qD⟩, va_recv hKc hPc (ci := 6) (q0 := 0) rfl rfl, fun U hU hW => ⟨rfl, by rw [hU], by rw [hU]; exact hPc, va_K.moved hW.alike hKc, hDc.weaken (fun _ _ _ _ => trivial)⟩⟩ rfl rfl hl.1 rfl (lv_room (Nat.le_of_ble_eq_true rfl)) dX6_fillWithNumbers_58 ⟨Nat.le_of_ble_eq_true rfl, Nat.le_of_ble_eq_true rfl⟩) hS (fun q _ h => hFc q h) hFc (fun u t H1 locs ht hvm hw hB hz1 hk1 hS => ?_)
            obtain ⟨y338, y339, y340, hP1, hK1, hD1⟩ := hB
            rw [ht] at hP1
            have hK1 := va_K.moved hvm.symm hK1
            obtain ⟨hP, hD⟩ := va_join (wr := [(a_a, .inr (3, [.ref f_lo, .ref f_hi, .int f_li])), (f_lo, .inl (kI, 200, .inl g_f_lo)), (f_hi, .inl (kI, 200, .inl g_f_hi)), (a_o, .inr (3, [.ref e_lo, .ref e_hi, .int e_li])), (e_lo, .inl (kI, 200, .inl g_e_lo)), (e_hi, .inl (kI, 200, .inl g_e_hi))]) (w1 := [(h0, .inr (6, [.ref u_z, .ref u_l, .ref u_g, .int u_at, .int u_sf, .int u_sm, .int u_sl, .int u_sh])), (u_z, .inl (kI, 1000, .inl y338)), (u_l, .inl (kI, 1000, .inl y339)), (u_g, .inl (kI, 1000, .inl y340))]) hP hD [8, 9, 0, 1] [2, 3, 4, 5, 6, 7] rfl rfl (by decide) (by decide) hk1 hFc hP1 hD1
            have hK := (hK.sub (tys' := [(kI, .int), (kI, .int)]) [0, 1] rfl).app hK1
            generalize H1 = H at hP hS ⊢
            have hP : va_P D vwCl [(a_a, .inr (3, [.ref f_lo, .ref f_hi, .int f_li])), (f_lo, .inl (kI, 200, .inl g_f_lo)), (f_hi, .inl (kI, 200, .inl g_f_hi)), (a_o, .inr (3, [.ref e_lo, .ref e_hi, .int e_li])), (e_lo, .inl (kI, 200, .inl g_e_lo)), (e_hi, .inl (kI, 200, .inl g_e_hi)), (h0, .inr (6, [.ref u_z, .ref u_l, .ref u_g, .int u_at, .int u_sf, .int u_sm, .int u_sl, .int u_sh])), (u_z, .inl (kI, 1000, .inl y338)), (u_l, .inl (kI, 1000, .inl y339)), (u_g, .inl (kI, 1000, .inl y340))] H := hP
            have hD : va_D A [(a_a, .inr (3, [.ref f_lo, .ref f_hi, .int f_li])), (f_lo, .inl (kI, 200, .inl g_f_lo)), (f_hi, .inl (kI, 200, .inl g_f_hi)), (a_o, .inr (3, [.ref e_lo, .ref e_hi, .int e_li])), (e_lo, .inl (kI, 200, .inl g_e_lo)), (e_hi, .inl (kI, 200, .inl g_e_hi)), (h0, .inr (6, [.ref u_z, .ref u_l, .ref u_g, .int u_at, .int u_sf, .int u_sm, .int u_sl, .int u_sh])), (u_z, .inl (kI, 1000, .inl y338)), (u_l, .inl (kI, 1000, .inl y339)), (u_g, .inl (kI, 1000, .inl y340))] := hD
            have hK : va_K D vwCl [(kI, .int), (kI, .int), (kI, .int)] s := hK
            refine W.widen (k := 0) (n := 0) (Nat.le_of_ble_eq_true rfl) (Nat.le_of_ble_eq_true rfl) ?_
            refine lv_aload_n hx hb dX6_fillWithNumbers_61 rfl (lv_at hl 0 rfl) ?_
            refine lv_iload hx hb dX6_fillWithNumbers_62 (lv_at hl 4 rfl) ?_
            refine lv_aload_n hx hb dX6_fillWithNumbers_64 rfl (lv_at hl 2 rfl) ?_
            refine lv_iload_n hx hb dX6_fillWithNumbers_65 rfl (lv_at hl 3 rfl) ?_
            have hPc := hP.sub (ws' := [(a_o, .inr (3, [.ref e_lo, .ref e_hi, .int e_li])), (e_hi, .inl (kI, 200, .inl g_e_hi))]) [3, 5] rfl
            have hKc := hK.sub (tys' := [(kI, .int)]) [0] rfl
            refine va_calli (va_runV (As := [.int v230]) (rest := [.int v329, .ref h0]) ⟨hx, hb, hml, hown, hts⟩ (c_X3_high l D a_o v230 e_lo e_hi e_li kI g_e_hi hg_e_hi) (cwV 1 hts g_X6_fillWithNumbers_X3_high rfl rfl rfl (by decide +kernel) ⟨Nat.le_of_ble_eq_true rfl, Nat.le_of_ble_eq_true rfl⟩) ⟨fun a U g mk q => by obtain ⟨q0, qP, qK⟩ := q; exact ⟨q0, qP, va_K.moved (u := U) (U := U.calling g mk a) (Vm.Alike.refl U.vm) qK⟩, va_recv hKc hPc (ci := 3) (q0 := 0) rfl rfl, fun U hU hW => ⟨rfl, by rw [hU]; exact hPc, va_K.moved hW.alike hKc⟩⟩ rfl rfl hl.1 rfl (lv_room (Nat.le_of_ble_eq_true rfl)) dX6_fillWithNumbers_66 ⟨Nat.le_of_ble_eq_true rfl, Nat.le_of_ble_eq_true rfl⟩) hS (fun _ _ h => h.elim) (fun _ h => h.elim) (fun r341 u t H1 locs ht hvm hw hB hz1 hk1 hS => ?_)
            have hP := pw_keep hP (fun q hq => hk1 q hq (fun h => h))
            generalize H1 = H at hP hS ⊢
            refine W.widen (k := 0) (n := 0) (Nat.le_of_ble_eq_true rfl) (Nat.le_of_ble_eq_true rfl) ?_
            have hfr341 := hw
            have hPc := hP.sub (ws' := [(h0, .inr (6, [.ref u_z, .ref u_l, .ref u_g, .int u_at, .int u_sf, .int u_sm, .int u_sl, .int u_sh])), (u_z, .inl (kI, 1000, .inl y338)), (u_l, .inl (kI, 1000, .inl y339)), (u_g, .inl (kI, 1000, .inl y340))]) [6, 7, 8, 9] rfl
            have hKc := hK.sub (tys' := [(kI, .int)]) [0] rfl
            have hDc := hD.sub (ws' := [(h0, .inr (6, [.ref u_z, .ref u_l, .ref u_g, .int u_at, .int u_sf, .int u_sm, .int u_sl, .int u_sh])), (u_z, .inl (kI, 1000, .inl y338)), (u_l, .inl (kI, 1000, .inl y339)), (u_g, .inl (kI, 1000, .inl y340))]) [6, 7, 8, 9] (by decide) rfl
            have hFc := va_free (wc := [(h0, .inr (6, [.ref u_z, .ref u_l, .ref u_g, .int u_at, .int u_sf, .int u_sm, .int u_sl, .int u_sh])), (u_z, .inl (kI, 1000, .inl y338)), (u_l, .inl (kI, 1000, .inl y339)), (u_g, .inl (kI, 1000, .inl y340))]) hD hS hA [6, 7, 8, 9] rfl
            refine va_callv (va_runV (As := [.int v329, .int r341]) (rest := []) ⟨hx, hb, hml, hown, hts⟩ (c_X6_put l D h0 v329 r341 u_z u_l u_g u_at u_sf u_sm u_sl u_sh kI y338 y339 y340 H.size) (cwV 2 hts g_X6_fillWithNumbers_X6_put rfl rfl rfl (by decide +kernel) ⟨Nat.le_of_ble_eq_true rfl, Nat.le_of_ble_eq_true rfl⟩) ⟨fun a U g mk q => by obtain ⟨q0, q1, qP, qK, qD⟩ := q; exact ⟨q0, q1, qP, va_K.moved (u := U) (U := U.calling g mk a) (Vm.Alike.refl U.vm) qK, qD⟩, va_recv hKc hPc (ci := 6) (q0 := 0) rfl rfl, fun U hU hW => ⟨rfl, by rw [hU], by rw [hU]; exact hPc, va_K.moved hW.alike hKc, hDc.weaken (fun _ _ _ _ => trivial)⟩⟩ rfl rfl hl.1 rfl (lv_room (Nat.le_of_ble_eq_true rfl)) dX6_fillWithNumbers_69 ⟨Nat.le_of_ble_eq_true rfl, Nat.le_of_ble_eq_true rfl⟩) hS (fun q _ h => hFc q h) hFc (fun u t H1 locs ht hvm hw hB hz1 hk1 hS => ?_)
            obtain ⟨y343, y344, y345, hP1, hK1, hD1⟩ := hB
            rw [ht] at hP1
            have hK1 := va_K.moved hvm.symm hK1
            obtain ⟨hP, hD⟩ := va_join (wr := [(a_a, .inr (3, [.ref f_lo, .ref f_hi, .int f_li])), (f_lo, .inl (kI, 200, .inl g_f_lo)), (f_hi, .inl (kI, 200, .inl g_f_hi)), (a_o, .inr (3, [.ref e_lo, .ref e_hi, .int e_li])), (e_lo, .inl (kI, 200, .inl g_e_lo)), (e_hi, .inl (kI, 200, .inl g_e_hi))]) (w1 := [(h0, .inr (6, [.ref u_z, .ref u_l, .ref u_g, .int u_at, .int u_sf, .int u_sm, .int u_sl, .int u_sh])), (u_z, .inl (kI, 1000, .inl y343)), (u_l, .inl (kI, 1000, .inl y344)), (u_g, .inl (kI, 1000, .inl y345))]) hP hD [6, 7, 8, 9] [0, 1, 2, 3, 4, 5] rfl rfl (by decide) (by decide) hk1 hFc hP1 hD1
            have hK := (hK.sub (tys' := [(kI, .int), (kI, .int), (kI, .int)]) [0, 1, 2] rfl).app hK1
            generalize H1 = H at hP hS ⊢
            have hP : va_P D vwCl [(a_a, .inr (3, [.ref f_lo, .ref f_hi, .int f_li])), (f_lo, .inl (kI, 200, .inl g_f_lo)), (f_hi, .inl (kI, 200, .inl g_f_hi)), (a_o, .inr (3, [.ref e_lo, .ref e_hi, .int e_li])), (e_lo, .inl (kI, 200, .inl g_e_lo)), (e_hi, .inl (kI, 200, .inl g_e_hi)), (h0, .inr (6, [.ref u_z, .ref u_l, .ref u_g, .int u_at, .int u_sf, .int u_sm, .int u_sl, .int u_sh])), (u_z, .inl (kI, 1000, .inl y343)), (u_l, .inl (kI, 1000, .inl y344)), (u_g, .inl (kI, 1000, .inl y345))] H := hP
            have hD : va_D A [(a_a, .inr (3, [.ref f_lo, .ref f_hi, .int f_li])), (f_lo, .inl (kI, 200, .inl g_f_lo)), (f_hi, .inl (kI, 200, .inl g_f_hi)), (a_o, .inr (3, [.ref e_lo, .ref e_hi, .int e_li])), (e_lo, .inl (kI, 200, .inl g_e_lo)), (e_hi, .inl (kI, 200, .inl g_e_hi)), (h0, .inr (6, [.ref u_z, .ref u_l, .ref u_g, .int u_at, .int u_sf, .int u_sm, .int u_sl, .int u_sh])), (u_z, .inl (kI, 1000, .inl y343)), (u_l, .inl (kI, 1000, .inl y344)), (u_g, .inl (kI, 1000, .inl y345))] := hD
            have hK : va_K D vwCl [(kI, .int), (kI, .int), (kI, .int), (kI, .int)] s := hK
            refine W.widen (k := 0) (n := 0) (Nat.le_of_ble_eq_true rfl) (Nat.le_of_ble_eq_true rfl) ?_
            obtain ⟨x346, ex346⟩ : ∃ y : Int32, y = v329 + 1 := ⟨_, rfl⟩
            refine lv_iinc (v := x346) (lv' := [(4, .int x346), (0, .ref h0), (1, .ref a_a), (2, .ref a_o), (3, .int v230)]) hx hb dX6_fillWithNumbers_72 hl (k := 4) rfl (by rw [ex346]; rfl) (by decide) rfl (fun ls hl => ?_)
            refine lv_goto (tgt := 40) hx hb dX6_fillWithNumbers_75 (by decide) ?_
            have hP9 : va_P D vwCl [(u_l, .inl (kI, 1000, .inl y344)), (u_g, .inl (kI, 1000, .inl y345)), (a_a, .inr (3, [.ref f_lo, .ref f_hi, .int f_li])), (f_lo, .inl (kI, 200, .inl g_f_lo)), (f_hi, .inl (kI, 200, .inl g_f_hi)), (a_o, .inr (3, [.ref e_lo, .ref e_hi, .int e_li])), (e_lo, .inl (kI, 200, .inl g_e_lo)), (e_hi, .inl (kI, 200, .inl g_e_hi)), (h0, .inr (6, [.ref u_z, .ref u_l, .ref u_g, .int u_at, .int u_sf, .int u_sm, .int u_sl, .int u_sh])), (u_z, .inl (kI, 1000, .inl y343))] H := hP.sub [8, 9, 0, 1, 2, 3, 4, 5, 6, 7] rfl
            have hD9 : va_D A [(u_l, .inl (kI, 1000, .inl y344)), (u_g, .inl (kI, 1000, .inl y345)), (a_a, .inr (3, [.ref f_lo, .ref f_hi, .int f_li])), (f_lo, .inl (kI, 200, .inl g_f_lo)), (f_hi, .inl (kI, 200, .inl g_f_hi)), (a_o, .inr (3, [.ref e_lo, .ref e_hi, .int e_li])), (e_lo, .inl (kI, 200, .inl g_e_lo)), (e_hi, .inl (kI, 200, .inl g_e_hi)), (h0, .inr (6, [.ref u_z, .ref u_l, .ref u_g, .int u_at, .int u_sf, .int u_sm, .int u_sl, .int u_sh])), (u_z, .inl (kI, 1000, .inl y343))] := hD.sub [8, 9, 0, 1, 2, 3, 4, 5, 6, 7] (by decide) rfl
            have hl9 : lv_has ls 5 [(0, .ref h0), (1, .ref a_a), (2, .ref a_o), (3, .int v230), (4, .int x346)] := lv_sub hl [1, 2, 3, 4, 0] rfl
            refine W.widen (k := 0) (n := 0) (Nat.le_of_ble_eq_true rfl) (Nat.le_of_ble_eq_true rfl) ?_
            exact ih333 (x346, y344, y345, y343) _ _ _ (pw_up ex346 (by omega)) ⟨hP9, hD9, hS, hl9⟩
        · have nc297 : r296.toInt = 0 := pw_eq c297 rfl (by decide)
          refine lv_goto (tgt := 78) hx hb dX6_fillWithNumbers_30 (by decide) ?_
          have hP9 : va_P D vwCl [(u_l, .inl (kI, 1000, .inl f231)), (u_g, .inl (kI, 1000, .inl f232)), (a_a, .inr (3, [.ref f_lo, .ref f_hi, .int f_li])), (f_lo, .inl (kI, 200, .inl g_f_lo)), (f_hi, .inl (kI, 200, .inl g_f_hi)), (a_o, .inr (3, [.ref e_lo, .ref e_hi, .int e_li])), (e_lo, .inl (kI, 200, .inl g_e_lo)), (e_hi, .inl (kI, 200, .inl g_e_hi)), (h0, .inr (6, [.ref u_z, .ref u_l, .ref u_g, .int u_at, .int u_sf, .int u_sm, .int u_sl, .int u_sh])), (u_z, .inl (kI, 1000, .inl f233))] H := hP.sub [0, 1, 2, 3, 4, 5, 6, 7, 8, 9] rfl
          have hD9 : va_D A [(u_l, .inl (kI, 1000, .inl f231)), (u_g, .inl (kI, 1000, .inl f232)), (a_a, .inr (3, [.ref f_lo, .ref f_hi, .int f_li])), (f_lo, .inl (kI, 200, .inl g_f_lo)), (f_hi, .inl (kI, 200, .inl g_f_hi)), (a_o, .inr (3, [.ref e_lo, .ref e_hi, .int e_li])), (e_lo, .inl (kI, 200, .inl g_e_lo)), (e_hi, .inl (kI, 200, .inl g_e_hi)), (h0, .inr (6, [.ref u_z, .ref u_l, .ref u_g, .int u_at, .int u_sf, .int u_sm, .int u_sl, .int u_sh])), (u_z, .inl (kI, 1000, .inl f233))] := hD.sub [0, 1, 2, 3, 4, 5, 6, 7, 8, 9] (by decide) rfl
          have hl9 : lv_has ls 5 [(0, .ref h0), (1, .ref a_a), (2, .ref a_o), (3, .int v230)] := lv_sub hl [0, 1, 2, 3] rfl
          refine W.widen (k := 0) (n := 0) (Nat.le_of_ble_eq_true rfl) (Nat.le_of_ble_eq_true rfl) ?_
          exact hJ293 (f231, f232, f233) _ _ _ ⟨hP9, hD9, hS, hl9⟩
def w_X6_putSpan : List Cond := .code yX6_putSpan cX6_putSpan 4 none :: ([.methodLink RX6 52 yX6_hasSome, .instanceMethod yX6_hasSome, .selects RX6 yX6_hasSome yX6_hasSome, .initialized RX6, .code yX6_hasSome cX6_hasSome 2 (some .boolean), .methodLink RX6 21 yX6_isPlace, .instanceMethod yX6_isPlace, .selects RX6 yX6_isPlace yX6_isPlace, .code yX6_isPlace cX6_isPlace 2 (some .boolean), .fieldLink RX6 9 "LineCites$Spans" "sizes" "[I", .fieldLink RX6 15 "LineCites$Spans" "leasts" "[I", .fieldLink RX6 18 "LineCites$Spans" "greatests" "[I", .methodLink RX6 44 yX6_put, .instanceMethod yX6_put, .selects RX6 yX6_put yX6_put, .code yX6_put cX6_put 3 none] ++ wsX60)
set_option maxRecDepth 20000 in
theorem g_X6_putSpan_X6_hasSome : GoodIn w_X6_putSpan (wsV RX6 52 RX6 yX6_hasSome w_X6_hasSome) := goodIn_r _ [1, 2, 3, 4, 5, 6, 7, 8, 4, 9, 10, 11, 12, 17, 18, 19, 20, 21, 22, 23, 24] rfl (by decide +kernel)
set_option maxRecDepth 20000 in
theorem g_X6_putSpan_X6_put : GoodIn w_X6_putSpan (wsV RX6 44 RX6 yX6_put w_X6_put) := goodIn_r _ [13, 14, 15, 4, 16, 6, 7, 8, 4, 9, 10, 11, 12, 17, 18, 19, 20, 21, 22, 23, 24] rfl (by decide +kernel)
set_option maxHeartbeats 4000000 in
set_option maxRecDepth 100000 in
theorem c_X6_putSpan (l : Launch) (D : va_G) (h0 : Nat) (i_n : Int32) (a_k : Nat) (i_m : Int32) (u_z : Nat) (u_l : Nat) (u_g : Nat) (u_at : Int32) (u_sf : Int32) (u_sm : Int32) (u_sl : Int32) (u_sh : Int32) (kI : ClassId) (g_u_z : Nat → Int32) (g_u_l : Nat → Int32) (g_u_g : Nat → Int32) (k_z : Nat) (k_l : Nat) (k_g : Nat) (k_at : Int32) (k_sf : Int32) (k_sm : Int32) (k_sl : Int32) (k_sh : Int32) (g_k_z : Nat → Int32) (g_k_l : Nat → Int32) (g_k_g : Nat → Int32) (sz : Nat) : Met l yX6_putSpan w_X6_putSpan ({ frames := 2, cells := 0, slots := 0, locals := 43 }) (va_Pc [.ref h0, .int i_n, .ref a_k, .int i_m] (fun U => U.heap.size = sz ∧ va_P D vwCl [(h0, .inr (6, [.ref u_z, .ref u_l, .ref u_g, .int u_at, .int u_sf, .int u_sm, .int u_sl, .int u_sh])), (u_z, .inl (kI, 1000, .inl g_u_z)), (u_l, .inl (kI, 1000, .inl g_u_l)), (u_g, .inl (kI, 1000, .inl g_u_g)), (a_k, .inr (6, [.ref k_z, .ref k_l, .ref k_g, .int k_at, .int k_sf, .int k_sm, .int k_sl, .int k_sh])), (k_z, .inl (kI, 1000, .inl g_k_z)), (k_l, .inl (kI, 1000, .inl g_k_l)), (k_g, .inl (kI, 1000, .inl g_k_g))] U.heap ∧ va_K D vwCl [(kI, .int)] U ∧ va_D (fun _ => True) [(h0, .inr (6, [.ref u_z, .ref u_l, .ref u_g, .int u_at, .int u_sf, .int u_sm, .int u_sl, .int u_sh])), (u_z, .inl (kI, 1000, .inl g_u_z)), (u_l, .inl (kI, 1000, .inl g_u_l)), (u_g, .inl (kI, 1000, .inl g_u_g)), (a_k, .inr (6, [.ref k_z, .ref k_l, .ref k_g, .int k_at, .int k_sf, .int k_sm, .int k_sl, .int k_sh])), (k_z, .inl (kI, 1000, .inl g_k_z)), (k_l, .inl (kI, 1000, .inl g_k_l)), (k_g, .inl (kI, 1000, .inl g_k_g))])) (va_Qv (fun (_ : Unit) => True) (fun (_ : Unit) t => ∃ (n_z : Nat → Int32) (n_ll : Nat → Int32) (n_gg : Nat → Int32), va_P D vwCl [(h0, .inr (6, [.ref u_z, .ref u_l, .ref u_g, .int u_at, .int u_sf, .int u_sm, .int u_sl, .int u_sh])), (u_z, .inl (kI, 1000, .inl n_z)), (u_l, .inl (kI, 1000, .inl n_ll)), (u_g, .inl (kI, 1000, .inl n_gg)), (a_k, .inr (6, [.ref k_z, .ref k_l, .ref k_g, .int k_at, .int k_sf, .int k_sm, .int k_sl, .int k_sh])), (k_z, .inl (kI, 1000, .inl g_k_z)), (k_l, .inl (kI, 1000, .inl g_k_l)), (k_g, .inl (kI, 1000, .inl g_k_g))] t.heap ∧ va_K D vwCl [(kI, .int)] t ∧ va_D (va_A [(h0, .inr (6, [.ref u_z, .ref u_l, .ref u_g, .int u_at, .int u_sf, .int u_sm, .int u_sl, .int u_sh])), (u_z, .inl (kI, 1000, .inl g_u_z)), (u_l, .inl (kI, 1000, .inl g_u_l)), (u_g, .inl (kI, 1000, .inl g_u_g)), (a_k, .inr (6, [.ref k_z, .ref k_l, .ref k_g, .int k_at, .int k_sf, .int k_sm, .int k_sl, .int k_sh])), (k_z, .inl (kI, 1000, .inl g_k_z)), (k_l, .inl (kI, 1000, .inl g_k_l)), (k_g, .inl (kI, 1000, .inl g_k_g))] sz) [(h0, .inr (6, [.ref u_z, .ref u_l, .ref u_g, .int u_at, .int u_sf, .int u_sm, .int u_sl, .int u_sh])), (u_z, .inl (kI, 1000, .inl n_z)), (u_l, .inl (kI, 1000, .inl n_ll)), (u_g, .inl (kI, 1000, .inl n_gg)), (a_k, .inr (6, [.ref k_z, .ref k_l, .ref k_g, .int k_at, .int k_sf, .int k_sm, .int k_sl, .int k_sh])), (k_z, .inl (kI, 1000, .inl g_k_z)), (k_l, .inl (kI, 1000, .inl g_k_l)), (k_g, .inl (kI, 1000, .inl g_k_g))]) (va_A [(h0, .inr (6, [.ref u_z, .ref u_l, .ref u_g, .int u_at, .int u_sf, .int u_sm, .int u_sl, .int u_sh])), (u_z, .inl (kI, 1000, .inl g_u_z)), (u_l, .inl (kI, 1000, .inl g_u_l)), (u_g, .inl (kI, 1000, .inl g_u_g)), (a_k, .inr (6, [.ref k_z, .ref k_l, .ref k_g, .int k_at, .int k_sf, .int k_sm, .int k_sl, .int k_sh])), (k_z, .inl (kI, 1000, .inl g_k_z)), (k_l, .inl (kI, 1000, .inl g_k_l)), (k_g, .inl (kI, 1000, .inl g_k_g))] sz)) 0 0 (va_A [(h0, .inr (6, [.ref u_z, .ref u_l, .ref u_g, .int u_at, .int u_sf, .int u_sm, .int u_sl, .int u_sh])), (u_z, .inl (kI, 1000, .inl g_u_z)), (u_l, .inl (kI, 1000, .inl g_u_l)), (u_g, .inl (kI, 1000, .inl g_u_g)), (a_k, .inr (6, [.ref k_z, .ref k_l, .ref k_g, .int k_at, .int k_sf, .int k_sm, .int k_sl, .int k_sh])), (k_z, .inl (kI, 1000, .inl g_k_z)), (k_l, .inl (kI, 1000, .inl g_k_l)), (k_g, .inl (kI, 1000, .inl g_k_g))] sz) := by
  refine Met.ofW (cc := cX6_putSpan) (maxL := 4) (ret := none) (by decide) rfl ?_
  intro p e s m args below meth c s₁ B hml hv
  obtain ⟨rfl, hsz, hP, hK, hD0⟩ := hv
  have hx := B.exec
  have hb := B.bytes
  have hr := B.returns
  have hts := atoms_spec (ws := w_X6_putSpan) B.pre
  have hown : s.vm.findClass RX6 = some m.cls := findClass_of_methodNamed B.named
  have hlocks := B.notSynchronized
  subst hsz
  have hD := hD0.self (sz := s.heap.size)
  generalize hAe : va_A [(h0, .inr (6, [.ref u_z, .ref u_l, .ref u_g, .int u_at, .int u_sf, .int u_sm, .int u_sl, .int u_sh])), (u_z, .inl (kI, 1000, .inl g_u_z)), (u_l, .inl (kI, 1000, .inl g_u_l)), (u_g, .inl (kI, 1000, .inl g_u_g)), (a_k, .inr (6, [.ref k_z, .ref k_l, .ref k_g, .int k_at, .int k_sf, .int k_sm, .int k_sl, .int k_sh])), (k_z, .inl (kI, 1000, .inl g_k_z)), (k_l, .inl (kI, 1000, .inl g_k_l)), (k_g, .inl (kI, 1000, .inl g_k_g))] s.heap.size = A at hD ⊢
  have hA : ∀ q : Nat, s.heap.size ≤ q → A q := fun q h => by rw [← hAe]; exact Or.inr h
  have hS : va_S A s.heap s.heap [] := va_S.rf
  have hP : va_P D vwCl [(h0, .inr (6, [.ref u_z, .ref u_l, .ref u_g, .int u_at, .int u_sf, .int u_sm, .int u_sl, .int u_sh])), (u_z, .inl (kI, 1000, .inl g_u_z)), (u_l, .inl (kI, 1000, .inl g_u_l)), (u_g, .inl (kI, 1000, .inl g_u_g)), (a_k, .inr (6, [.ref k_z, .ref k_l, .ref k_g, .int k_at, .int k_sf, .int k_sm, .int k_sl, .int k_sh])), (k_z, .inl (kI, 1000, .inl g_k_z)), (k_l, .inl (kI, 1000, .inl g_k_l)), (k_g, .inl (kI, 1000, .inl g_k_g))] s.heap := hP
  have hl := lv_entry ([.ref h0, .int i_n, .ref a_k, .int i_m]) (n := 4) (Nat.le_of_ble_eq_true rfl)
  rw [lg_entry_eq]
  generalize (lg_sl ([.ref h0, .int i_n, .ref a_k, .int i_m]) ++ List.replicate (4 - (lg_sl ([.ref h0, .int i_n, .ref a_k, .int i_m])).length) Slot.unset).toArray = ls at hl ⊢
  have hl : lv_has ls 4 [(0, .ref h0), (1, .int i_n), (2, .ref a_k), (3, .int i_m)] := hl
  obtain ⟨H, hHe⟩ : ∃ H : Heap, H = s.heap := ⟨_, rfl⟩
  rw [← hHe] at hP
  have hS : va_S A s.heap H [] := by rw [hHe]; exact hS
  refine pw_heap hHe ?_
  refine lv_aload_n hx hb dX6_putSpan_0 rfl (lv_at hl 2 rfl) ?_
  refine lv_iload_n hx hb dX6_putSpan_1 rfl (lv_at hl 3 rfl) ?_
  have hPc := hP.sub (ws' := [(a_k, .inr (6, [.ref k_z, .ref k_l, .ref k_g, .int k_at, .int k_sf, .int k_sm, .int k_sl, .int k_sh])), (k_z, .inl (kI, 1000, .inl g_k_z)), (k_l, .inl (kI, 1000, .inl g_k_l)), (k_g, .inl (kI, 1000, .inl g_k_g))]) [4, 5, 6, 7] rfl
  have hKc := hK.sub (tys' := [(kI, .int)]) [0] rfl
  refine va_calli (va_runV (As := [.int i_m]) (rest := []) ⟨hx, hb, hml, hown, hts⟩ (c_X6_hasSome l D a_k i_m k_z k_l k_g k_at k_sf k_sm k_sl k_sh kI g_k_z g_k_l g_k_g) (cwV 1 hts g_X6_putSpan_X6_hasSome rfl rfl rfl (by decide +kernel) ⟨Nat.le_of_ble_eq_true rfl, Nat.le_of_ble_eq_true rfl⟩) ⟨fun a U g mk q => by obtain ⟨q0, qP, qK⟩ := q; exact ⟨q0, qP, va_K.moved (u := U) (U := U.calling g mk a) (Vm.Alike.refl U.vm) qK⟩, va_recv hKc hPc (ci := 6) (q0 := 0) rfl rfl, fun U hU hW => ⟨rfl, by rw [hU]; exact hPc, va_K.moved hW.alike hKc⟩⟩ rfl rfl hl.1 rfl (lv_room (Nat.le_of_ble_eq_true rfl)) dX6_putSpan_2 ⟨Nat.le_of_ble_eq_true rfl, Nat.le_of_ble_eq_true rfl⟩) hS (fun _ _ h => h.elim) (fun _ h => h.elim) (fun r1 u t H1 locs ht hvm hw hB hz1 hk1 hS => ?_)
  have hP := pw_keep hP (fun q hq => hk1 q hq (fun h => h))
  generalize H1 = H at hP hS ⊢
  refine W.widen (k := 0) (n := 0) (Nat.le_of_ble_eq_true rfl) (Nat.le_of_ble_eq_true rfl) ?_
  have bor1 := hw.1
  have zor1 := pw_boolI bor1
  have hfr1 := hw.2
  refine lv_if_ne (tgt := 9) hx hb dX6_putSpan_5 (by decide) (fun c2 => ?_) (fun c2 => ?_)
  · have nc2 : r1.toInt ≠ 0 := pw_ne c2 rfl (by decide)
    refine lv_aload_n hx hb dX6_putSpan_9 rfl (lv_at hl 0 rfl) ?_
    refine lv_iload_n hx hb dX6_putSpan_10 rfl (lv_at hl 1 rfl) ?_
    refine lv_aload_n hx hb dX6_putSpan_11 rfl (lv_at hl 2 rfl) ?_
    refine va_get (D := D) (ci := 6) (v := .ref k_l) (C := RX6) (T := TX6) (N := 8) hx hb hts (fun _ h => List.mem_cons_of_mem _ (List.mem_append_right _ h)) hown hK hP 4 rfl rfl 1 (by decide) (hts (.fieldLink RX6 15 "LineCites$Spans" "leasts" "[I") (List.mem_of_getElem? (i := 11) rfl)) (fun _ h9 => h9) rfl dX6_putSpan_12 ?_
    refine lv_iload_n hx hb dX6_putSpan_15 rfl (lv_at hl 3 rfl) ?_
    refine va_iald hx hb hK hP 6 0 rfl rfl (vp_in_iff.mpr ⟨by omega, by omega⟩) dX6_putSpan_16 ?_
    refine lv_topi (fun x3 ex3 => ?_)
    have hPc := hP.sub (ws' := [(h0, .inr (6, [.ref u_z, .ref u_l, .ref u_g, .int u_at, .int u_sf, .int u_sm, .int u_sl, .int u_sh])), (u_z, .inl (kI, 1000, .inl g_u_z)), (u_l, .inl (kI, 1000, .inl g_u_l)), (u_g, .inl (kI, 1000, .inl g_u_g))]) [0, 1, 2, 3] rfl
    have hKc := hK.sub (tys' := [(kI, .int)]) [0] rfl
    have hDc := hD.sub (ws' := [(h0, .inr (6, [.ref u_z, .ref u_l, .ref u_g, .int u_at, .int u_sf, .int u_sm, .int u_sl, .int u_sh])), (u_z, .inl (kI, 1000, .inl g_u_z)), (u_l, .inl (kI, 1000, .inl g_u_l)), (u_g, .inl (kI, 1000, .inl g_u_g))]) [0, 1, 2, 3] (by decide) rfl
    have hFc := va_free (wc := [(h0, .inr (6, [.ref u_z, .ref u_l, .ref u_g, .int u_at, .int u_sf, .int u_sm, .int u_sl, .int u_sh])), (u_z, .inl (kI, 1000, .inl g_u_z)), (u_l, .inl (kI, 1000, .inl g_u_l)), (u_g, .inl (kI, 1000, .inl g_u_g))]) hD hS hA [0, 1, 2, 3] rfl
    refine va_callv (va_runV (As := [.int i_n, .int x3]) (rest := []) ⟨hx, hb, hml, hown, hts⟩ (c_X6_put l D h0 i_n x3 u_z u_l u_g u_at u_sf u_sm u_sl u_sh kI g_u_z g_u_l g_u_g H.size) (cwV 2 hts g_X6_putSpan_X6_put rfl rfl rfl (by decide +kernel) ⟨Nat.le_of_ble_eq_true rfl, Nat.le_of_ble_eq_true rfl⟩) ⟨fun a U g mk q => by obtain ⟨q0, q1, qP, qK, qD⟩ := q; exact ⟨q0, q1, qP, va_K.moved (u := U) (U := U.calling g mk a) (Vm.Alike.refl U.vm) qK, qD⟩, va_recv hKc hPc (ci := 6) (q0 := 0) rfl rfl, fun U hU hW => ⟨rfl, by rw [hU], by rw [hU]; exact hPc, va_K.moved hW.alike hKc, hDc.weaken (fun _ _ _ _ => trivial)⟩⟩ rfl rfl hl.1 rfl (lv_room (Nat.le_of_ble_eq_true rfl)) dX6_putSpan_17 ⟨Nat.le_of_ble_eq_true rfl, Nat.le_of_ble_eq_true rfl⟩) hS (fun q _ h => hFc q h) hFc (fun u t H1 locs ht hvm hw hB hz1 hk1 hS => ?_)
    obtain ⟨y5, y6, y7, hP1, hK1, hD1⟩ := hB
    rw [ht] at hP1
    have hK1 := va_K.moved hvm.symm hK1
    obtain ⟨hP, hD⟩ := va_join (wr := [(a_k, .inr (6, [.ref k_z, .ref k_l, .ref k_g, .int k_at, .int k_sf, .int k_sm, .int k_sl, .int k_sh])), (k_z, .inl (kI, 1000, .inl g_k_z)), (k_l, .inl (kI, 1000, .inl g_k_l)), (k_g, .inl (kI, 1000, .inl g_k_g))]) (w1 := [(h0, .inr (6, [.ref u_z, .ref u_l, .ref u_g, .int u_at, .int u_sf, .int u_sm, .int u_sl, .int u_sh])), (u_z, .inl (kI, 1000, .inl y5)), (u_l, .inl (kI, 1000, .inl y6)), (u_g, .inl (kI, 1000, .inl y7))]) hP hD [0, 1, 2, 3] [4, 5, 6, 7] rfl rfl (by decide) (by decide) hk1 hFc hP1 hD1
    have hK := (hK.sub (tys' := [(kI, .int)]) [0] rfl).app hK1
    generalize H1 = H at hP hS ⊢
    have hP : va_P D vwCl [(a_k, .inr (6, [.ref k_z, .ref k_l, .ref k_g, .int k_at, .int k_sf, .int k_sm, .int k_sl, .int k_sh])), (k_z, .inl (kI, 1000, .inl g_k_z)), (k_l, .inl (kI, 1000, .inl g_k_l)), (k_g, .inl (kI, 1000, .inl g_k_g)), (h0, .inr (6, [.ref u_z, .ref u_l, .ref u_g, .int u_at, .int u_sf, .int u_sm, .int u_sl, .int u_sh])), (u_z, .inl (kI, 1000, .inl y5)), (u_l, .inl (kI, 1000, .inl y6)), (u_g, .inl (kI, 1000, .inl y7))] H := hP
    have hD : va_D A [(a_k, .inr (6, [.ref k_z, .ref k_l, .ref k_g, .int k_at, .int k_sf, .int k_sm, .int k_sl, .int k_sh])), (k_z, .inl (kI, 1000, .inl g_k_z)), (k_l, .inl (kI, 1000, .inl g_k_l)), (k_g, .inl (kI, 1000, .inl g_k_g)), (h0, .inr (6, [.ref u_z, .ref u_l, .ref u_g, .int u_at, .int u_sf, .int u_sm, .int u_sl, .int u_sh])), (u_z, .inl (kI, 1000, .inl y5)), (u_l, .inl (kI, 1000, .inl y6)), (u_g, .inl (kI, 1000, .inl y7))] := hD
    have hK : va_K D vwCl [(kI, .int), (kI, .int)] s := hK
    refine W.widen (k := 0) (n := 0) (Nat.le_of_ble_eq_true rfl) (Nat.le_of_ble_eq_true rfl) ?_
    refine lv_aload_n hx hb dX6_putSpan_20 rfl (lv_at hl 0 rfl) ?_
    refine lv_iload_n hx hb dX6_putSpan_21 rfl (lv_at hl 1 rfl) ?_
    refine lv_aload_n hx hb dX6_putSpan_22 rfl (lv_at hl 2 rfl) ?_
    refine va_get (D := D) (ci := 6) (v := .ref k_g) (C := RX6) (T := TX6) (N := 8) hx hb hts (fun _ h => List.mem_cons_of_mem _ (List.mem_append_right _ h)) hown hK hP 0 rfl rfl 2 (by decide) (hts (.fieldLink RX6 18 "LineCites$Spans" "greatests" "[I") (List.mem_of_getElem? (i := 12) rfl)) (fun _ h9 => h9) rfl dX6_putSpan_23 ?_
    refine lv_iload_n hx hb dX6_putSpan_26 rfl (lv_at hl 3 rfl) ?_
    refine va_iald hx hb hK hP 3 0 rfl rfl (vp_in_iff.mpr ⟨by omega, by omega⟩) dX6_putSpan_27 ?_
    refine lv_topi (fun x8 ex8 => ?_)
    have hPc := hP.sub (ws' := [(h0, .inr (6, [.ref u_z, .ref u_l, .ref u_g, .int u_at, .int u_sf, .int u_sm, .int u_sl, .int u_sh])), (u_z, .inl (kI, 1000, .inl y5)), (u_l, .inl (kI, 1000, .inl y6)), (u_g, .inl (kI, 1000, .inl y7))]) [4, 5, 6, 7] rfl
    have hKc := hK.sub (tys' := [(kI, .int)]) [0] rfl
    have hDc := hD.sub (ws' := [(h0, .inr (6, [.ref u_z, .ref u_l, .ref u_g, .int u_at, .int u_sf, .int u_sm, .int u_sl, .int u_sh])), (u_z, .inl (kI, 1000, .inl y5)), (u_l, .inl (kI, 1000, .inl y6)), (u_g, .inl (kI, 1000, .inl y7))]) [4, 5, 6, 7] (by decide) rfl
    have hFc := va_free (wc := [(h0, .inr (6, [.ref u_z, .ref u_l, .ref u_g, .int u_at, .int u_sf, .int u_sm, .int u_sl, .int u_sh])), (u_z, .inl (kI, 1000, .inl y5)), (u_l, .inl (kI, 1000, .inl y6)), (u_g, .inl (kI, 1000, .inl y7))]) hD hS hA [4, 5, 6, 7] rfl
    refine va_callv (va_runV (As := [.int i_n, .int x8]) (rest := []) ⟨hx, hb, hml, hown, hts⟩ (c_X6_put l D h0 i_n x8 u_z u_l u_g u_at u_sf u_sm u_sl u_sh kI y5 y6 y7 H.size) (cwV 2 hts g_X6_putSpan_X6_put rfl rfl rfl (by decide +kernel) ⟨Nat.le_of_ble_eq_true rfl, Nat.le_of_ble_eq_true rfl⟩) ⟨fun a U g mk q => by obtain ⟨q0, q1, qP, qK, qD⟩ := q; exact ⟨q0, q1, qP, va_K.moved (u := U) (U := U.calling g mk a) (Vm.Alike.refl U.vm) qK, qD⟩, va_recv hKc hPc (ci := 6) (q0 := 0) rfl rfl, fun U hU hW => ⟨rfl, by rw [hU], by rw [hU]; exact hPc, va_K.moved hW.alike hKc, hDc.weaken (fun _ _ _ _ => trivial)⟩⟩ rfl rfl hl.1 rfl (lv_room (Nat.le_of_ble_eq_true rfl)) dX6_putSpan_28 ⟨Nat.le_of_ble_eq_true rfl, Nat.le_of_ble_eq_true rfl⟩) hS (fun q _ h => hFc q h) hFc (fun u t H1 locs ht hvm hw hB hz1 hk1 hS => ?_)
    obtain ⟨y10, y11, y12, hP1, hK1, hD1⟩ := hB
    rw [ht] at hP1
    have hK1 := va_K.moved hvm.symm hK1
    obtain ⟨hP, hD⟩ := va_join (wr := [(a_k, .inr (6, [.ref k_z, .ref k_l, .ref k_g, .int k_at, .int k_sf, .int k_sm, .int k_sl, .int k_sh])), (k_z, .inl (kI, 1000, .inl g_k_z)), (k_l, .inl (kI, 1000, .inl g_k_l)), (k_g, .inl (kI, 1000, .inl g_k_g))]) (w1 := [(h0, .inr (6, [.ref u_z, .ref u_l, .ref u_g, .int u_at, .int u_sf, .int u_sm, .int u_sl, .int u_sh])), (u_z, .inl (kI, 1000, .inl y10)), (u_l, .inl (kI, 1000, .inl y11)), (u_g, .inl (kI, 1000, .inl y12))]) hP hD [4, 5, 6, 7] [0, 1, 2, 3] rfl rfl (by decide) (by decide) hk1 hFc hP1 hD1
    have hK := (hK.sub (tys' := [(kI, .int), (kI, .int)]) [0, 1] rfl).app hK1
    generalize H1 = H at hP hS ⊢
    have hP : va_P D vwCl [(a_k, .inr (6, [.ref k_z, .ref k_l, .ref k_g, .int k_at, .int k_sf, .int k_sm, .int k_sl, .int k_sh])), (k_z, .inl (kI, 1000, .inl g_k_z)), (k_l, .inl (kI, 1000, .inl g_k_l)), (k_g, .inl (kI, 1000, .inl g_k_g)), (h0, .inr (6, [.ref u_z, .ref u_l, .ref u_g, .int u_at, .int u_sf, .int u_sm, .int u_sl, .int u_sh])), (u_z, .inl (kI, 1000, .inl y10)), (u_l, .inl (kI, 1000, .inl y11)), (u_g, .inl (kI, 1000, .inl y12))] H := hP
    have hD : va_D A [(a_k, .inr (6, [.ref k_z, .ref k_l, .ref k_g, .int k_at, .int k_sf, .int k_sm, .int k_sl, .int k_sh])), (k_z, .inl (kI, 1000, .inl g_k_z)), (k_l, .inl (kI, 1000, .inl g_k_l)), (k_g, .inl (kI, 1000, .inl g_k_g)), (h0, .inr (6, [.ref u_z, .ref u_l, .ref u_g, .int u_at, .int u_sf, .int u_sm, .int u_sl, .int u_sh])), (u_z, .inl (kI, 1000, .inl y10)), (u_l, .inl (kI, 1000, .inl y11)), (u_g, .inl (kI, 1000, .inl y12))] := hD
    have hK : va_K D vwCl [(kI, .int), (kI, .int), (kI, .int)] s := hK
    refine W.widen (k := 0) (n := 0) (Nat.le_of_ble_eq_true rfl) (Nat.le_of_ble_eq_true rfl) ?_
    have hP9 := hP.sub (ws' := [(h0, .inr (6, [.ref u_z, .ref u_l, .ref u_g, .int u_at, .int u_sf, .int u_sm, .int u_sl, .int u_sh])), (u_z, .inl (kI, 1000, .inl y10)), (u_l, .inl (kI, 1000, .inl y11)), (u_g, .inl (kI, 1000, .inl y12)), (a_k, .inr (6, [.ref k_z, .ref k_l, .ref k_g, .int k_at, .int k_sf, .int k_sm, .int k_sl, .int k_sh])), (k_z, .inl (kI, 1000, .inl g_k_z)), (k_l, .inl (kI, 1000, .inl g_k_l)), (k_g, .inl (kI, 1000, .inl g_k_g))]) [4, 5, 6, 7, 0, 1, 2, 3] rfl
    have hD9 := hD.sub (ws' := [(h0, .inr (6, [.ref u_z, .ref u_l, .ref u_g, .int u_at, .int u_sf, .int u_sm, .int u_sl, .int u_sh])), (u_z, .inl (kI, 1000, .inl y10)), (u_l, .inl (kI, 1000, .inl y11)), (u_g, .inl (kI, 1000, .inl y12)), (a_k, .inr (6, [.ref k_z, .ref k_l, .ref k_g, .int k_at, .int k_sf, .int k_sm, .int k_sl, .int k_sh])), (k_z, .inl (kI, 1000, .inl g_k_z)), (k_l, .inl (kI, 1000, .inl g_k_l)), (k_g, .inl (kI, 1000, .inl g_k_g))]) [4, 5, 6, 7, 0, 1, 2, 3] (by decide) rfl
    have hK9 := hK.sub (tys' := [(kI, .int)]) [0] rfl
    refine W.widen (k := 0) (n := 0) (Nat.le_of_ble_eq_true rfl) (Nat.le_of_ble_eq_true rfl) ?_
    exact W.vret hx hb hr (fun t ht hW => ⟨⟨(), rfl, trivial, y10, y11, y12, by rw [ht]; exact hP9, va_K.moved hW.alike hK9, hD9⟩, hS.F ht⟩) hS.2.2 dX6_putSpan_31
  · have nc2 : r1.toInt = 0 := pw_eq c2 rfl (by decide)
    have hP9 := hP.sub (ws' := [(h0, .inr (6, [.ref u_z, .ref u_l, .ref u_g, .int u_at, .int u_sf, .int u_sm, .int u_sl, .int u_sh])), (u_z, .inl (kI, 1000, .inl g_u_z)), (u_l, .inl (kI, 1000, .inl g_u_l)), (u_g, .inl (kI, 1000, .inl g_u_g)), (a_k, .inr (6, [.ref k_z, .ref k_l, .ref k_g, .int k_at, .int k_sf, .int k_sm, .int k_sl, .int k_sh])), (k_z, .inl (kI, 1000, .inl g_k_z)), (k_l, .inl (kI, 1000, .inl g_k_l)), (k_g, .inl (kI, 1000, .inl g_k_g))]) [0, 1, 2, 3, 4, 5, 6, 7] rfl
    have hD9 := hD.sub (ws' := [(h0, .inr (6, [.ref u_z, .ref u_l, .ref u_g, .int u_at, .int u_sf, .int u_sm, .int u_sl, .int u_sh])), (u_z, .inl (kI, 1000, .inl g_u_z)), (u_l, .inl (kI, 1000, .inl g_u_l)), (u_g, .inl (kI, 1000, .inl g_u_g)), (a_k, .inr (6, [.ref k_z, .ref k_l, .ref k_g, .int k_at, .int k_sf, .int k_sm, .int k_sl, .int k_sh])), (k_z, .inl (kI, 1000, .inl g_k_z)), (k_l, .inl (kI, 1000, .inl g_k_l)), (k_g, .inl (kI, 1000, .inl g_k_g))]) [0, 1, 2, 3, 4, 5, 6, 7] (by decide) rfl
    have hK9 := hK.sub (tys' := [(kI, .int)]) [0] rfl
    refine W.widen (k := 0) (n := 0) (Nat.le_of_ble_eq_true rfl) (Nat.le_of_ble_eq_true rfl) ?_
    exact W.vret hx hb hr (fun t ht hW => ⟨⟨(), rfl, trivial, g_u_z, g_u_l, g_u_g, by rw [ht]; exact hP9, va_K.moved hW.alike hK9, hD9⟩, hS.F ht⟩) hS.2.2 dX6_putSpan_8
def w_X6_fillThrough : List Cond := .code yX6_fillThrough cX6_fillThrough 6 none :: ([.methodLink RX6 25 yX6_clear, .instanceMethod yX6_clear, .selects RX6 yX6_clear yX6_clear, .initialized RX6, .code yX6_clear cX6_clear 2 none, .fieldLink RX6 9 "LineCites$Spans" "sizes" "[I", .methodLink RX6 28 yX3_lines, .instanceMethod yX3_lines, .selects RX3 yX3_lines yX3_lines, .initialized RX3, .code yX3_lines cX3_lines 1 (some .int), .fieldLink RX3 24 "LineCites$Numbering" "lines" "I", .methodLink RX6 34 yX3_isNumbered, .instanceMethod yX3_isNumbered, .selects RX3 yX3_isNumbered yX3_isNumbered, .code yX3_isNumbered cX3_isNumbered 2 (some .boolean), .methodLink RX3 46 yX3_low, .instanceMethod yX3_low, .selects RX3 yX3_low yX3_low, .code yX3_low cX3_low 2 (some .int), .fieldLink RX3 9 "LineCites$Numbering" "lows" "[I", .methodLink RX6 37 yX3_low, .methodLink RX6 41 yX3_high, .instanceMethod yX3_high, .selects RX3 yX3_high yX3_high, .code yX3_high cX3_high 2 (some .int), .fieldLink RX3 15 "LineCites$Numbering" "highs" "[I", .methodLink RX6 48 yX6_putSpan, .instanceMethod yX6_putSpan, .selects RX6 yX6_putSpan yX6_putSpan, .code yX6_putSpan cX6_putSpan 4 none, .methodLink RX6 52 yX6_hasSome, .instanceMethod yX6_hasSome, .selects RX6 yX6_hasSome yX6_hasSome, .code yX6_hasSome cX6_hasSome 2 (some .boolean), .methodLink RX6 21 yX6_isPlace, .instanceMethod yX6_isPlace, .selects RX6 yX6_isPlace yX6_isPlace, .code yX6_isPlace cX6_isPlace 2 (some .boolean), .fieldLink RX6 15 "LineCites$Spans" "leasts" "[I", .fieldLink RX6 18 "LineCites$Spans" "greatests" "[I", .methodLink RX6 44 yX6_put, .instanceMethod yX6_put, .selects RX6 yX6_put yX6_put, .code yX6_put cX6_put 3 none] ++ wsX60 ++ wsX30)
set_option maxRecDepth 20000 in
theorem g_X6_fillThrough_X6_clear : GoodIn w_X6_fillThrough (wsV RX6 25 RX6 yX6_clear w_X6_clear) := goodIn_r _ [1, 2, 3, 4, 5, 6, 46, 47, 48, 49, 50, 51, 52, 53] rfl (by decide +kernel)
set_option maxRecDepth 20000 in
theorem g_X6_fillThrough_X3_lines : GoodIn w_X6_fillThrough (wsV RX6 28 RX3 yX3_lines w_X3_lines) := goodIn_r _ [7, 8, 9, 10, 11, 12, 54, 55, 56] rfl (by decide +kernel)
set_option maxRecDepth 20000 in
theorem g_X6_fillThrough_X3_isNumbered : GoodIn w_X6_fillThrough (wsV RX6 34 RX3 yX3_isNumbered w_X3_isNumbered) := goodIn_r _ [13, 14, 15, 10, 16, 17, 18, 19, 10, 20, 21, 54, 55, 56] rfl (by decide +kernel)
set_option maxRecDepth 20000 in
theorem g_X6_fillThrough_X3_low : GoodIn w_X6_fillThrough (wsV RX6 37 RX3 yX3_low w_X3_low) := goodIn_r _ [22, 18, 19, 10, 20, 21, 54, 55, 56] rfl (by decide +kernel)
set_option maxRecDepth 20000 in
theorem g_X6_fillThrough_X3_high : GoodIn w_X6_fillThrough (wsV RX6 41 RX3 yX3_high w_X3_high) := goodIn_r _ [23, 24, 25, 10, 26, 27, 54, 55, 56] rfl (by decide +kernel)
set_option maxRecDepth 20000 in
theorem g_X6_fillThrough_X6_putSpan : GoodIn w_X6_fillThrough (wsV RX6 48 RX6 yX6_putSpan w_X6_putSpan) := goodIn_r _ [28, 29, 30, 4, 31, 32, 33, 34, 4, 35, 36, 37, 38, 39, 6, 40, 41, 42, 43, 44, 45, 46, 47, 48, 49, 50, 51, 52, 53] rfl (by decide +kernel)
set_option maxHeartbeats 4000000 in
set_option maxRecDepth 100000 in
theorem c_X6_fillThrough (l : Launch) (D : va_G) (h0 : Nat) (a_a : Nat) (a_o : Nat) (a_k : Nat) (u_z : Nat) (u_l : Nat) (u_g : Nat) (u_at : Int32) (u_sf : Int32) (u_sm : Int32) (u_sl : Int32) (u_sh : Int32) (kI : ClassId) (g_u_z : Nat → Int32) (g_u_l : Nat → Int32) (g_u_g : Nat → Int32) (f_lo : Nat) (f_hi : Nat) (f_li : Int32) (g_f_lo : Nat → Int32) (g_f_hi : Nat → Int32) (e_lo : Nat) (e_hi : Nat) (e_li : Int32) (g_e_lo : Nat → Int32) (g_e_hi : Nat → Int32) (k_z : Nat) (k_l : Nat) (k_g : Nat) (k_at : Int32) (k_sf : Int32) (k_sm : Int32) (k_sl : Int32) (k_sh : Int32) (g_k_z : Nat → Int32) (g_k_l : Nat → Int32) (g_k_g : Nat → Int32) (sz : Nat) (hg_f_lo : bN g_f_lo) (hg_f_hi : bN g_f_hi) (hg_e_lo : bN g_e_lo) (hg_e_hi : bN g_e_hi) : Met l yX6_fillThrough w_X6_fillThrough ({ frames := 3, cells := 0, slots := 0, locals := 66 }) (va_Pc [.ref h0, .ref a_a, .ref a_o, .ref a_k] (fun U => U.heap.size = sz ∧ va_P D vwCl [(h0, .inr (6, [.ref u_z, .ref u_l, .ref u_g, .int u_at, .int u_sf, .int u_sm, .int u_sl, .int u_sh])), (u_z, .inl (kI, 1000, .inl g_u_z)), (u_l, .inl (kI, 1000, .inl g_u_l)), (u_g, .inl (kI, 1000, .inl g_u_g)), (a_a, .inr (3, [.ref f_lo, .ref f_hi, .int f_li])), (f_lo, .inl (kI, 200, .inl g_f_lo)), (f_hi, .inl (kI, 200, .inl g_f_hi)), (a_o, .inr (3, [.ref e_lo, .ref e_hi, .int e_li])), (e_lo, .inl (kI, 200, .inl g_e_lo)), (e_hi, .inl (kI, 200, .inl g_e_hi)), (a_k, .inr (6, [.ref k_z, .ref k_l, .ref k_g, .int k_at, .int k_sf, .int k_sm, .int k_sl, .int k_sh])), (k_z, .inl (kI, 1000, .inl g_k_z)), (k_l, .inl (kI, 1000, .inl g_k_l)), (k_g, .inl (kI, 1000, .inl g_k_g))] U.heap ∧ va_K D vwCl [(kI, .int)] U ∧ va_D (fun _ => True) [(h0, .inr (6, [.ref u_z, .ref u_l, .ref u_g, .int u_at, .int u_sf, .int u_sm, .int u_sl, .int u_sh])), (u_z, .inl (kI, 1000, .inl g_u_z)), (u_l, .inl (kI, 1000, .inl g_u_l)), (u_g, .inl (kI, 1000, .inl g_u_g)), (a_a, .inr (3, [.ref f_lo, .ref f_hi, .int f_li])), (f_lo, .inl (kI, 200, .inl g_f_lo)), (f_hi, .inl (kI, 200, .inl g_f_hi)), (a_o, .inr (3, [.ref e_lo, .ref e_hi, .int e_li])), (e_lo, .inl (kI, 200, .inl g_e_lo)), (e_hi, .inl (kI, 200, .inl g_e_hi)), (a_k, .inr (6, [.ref k_z, .ref k_l, .ref k_g, .int k_at, .int k_sf, .int k_sm, .int k_sl, .int k_sh])), (k_z, .inl (kI, 1000, .inl g_k_z)), (k_l, .inl (kI, 1000, .inl g_k_l)), (k_g, .inl (kI, 1000, .inl g_k_g))])) (va_Qv (fun (_ : Unit) => True) (fun (_ : Unit) t => ∃ (n_z : Nat → Int32) (n_ll : Nat → Int32) (n_gg : Nat → Int32), va_P D vwCl [(h0, .inr (6, [.ref u_z, .ref u_l, .ref u_g, .int u_at, .int u_sf, .int u_sm, .int u_sl, .int u_sh])), (u_z, .inl (kI, 1000, .inl n_z)), (u_l, .inl (kI, 1000, .inl n_ll)), (u_g, .inl (kI, 1000, .inl n_gg)), (a_a, .inr (3, [.ref f_lo, .ref f_hi, .int f_li])), (f_lo, .inl (kI, 200, .inl g_f_lo)), (f_hi, .inl (kI, 200, .inl g_f_hi)), (a_o, .inr (3, [.ref e_lo, .ref e_hi, .int e_li])), (e_lo, .inl (kI, 200, .inl g_e_lo)), (e_hi, .inl (kI, 200, .inl g_e_hi)), (a_k, .inr (6, [.ref k_z, .ref k_l, .ref k_g, .int k_at, .int k_sf, .int k_sm, .int k_sl, .int k_sh])), (k_z, .inl (kI, 1000, .inl g_k_z)), (k_l, .inl (kI, 1000, .inl g_k_l)), (k_g, .inl (kI, 1000, .inl g_k_g))] t.heap ∧ va_K D vwCl [(kI, .int)] t ∧ va_D (va_A [(h0, .inr (6, [.ref u_z, .ref u_l, .ref u_g, .int u_at, .int u_sf, .int u_sm, .int u_sl, .int u_sh])), (u_z, .inl (kI, 1000, .inl g_u_z)), (u_l, .inl (kI, 1000, .inl g_u_l)), (u_g, .inl (kI, 1000, .inl g_u_g)), (a_a, .inr (3, [.ref f_lo, .ref f_hi, .int f_li])), (f_lo, .inl (kI, 200, .inl g_f_lo)), (f_hi, .inl (kI, 200, .inl g_f_hi)), (a_o, .inr (3, [.ref e_lo, .ref e_hi, .int e_li])), (e_lo, .inl (kI, 200, .inl g_e_lo)), (e_hi, .inl (kI, 200, .inl g_e_hi)), (a_k, .inr (6, [.ref k_z, .ref k_l, .ref k_g, .int k_at, .int k_sf, .int k_sm, .int k_sl, .int k_sh])), (k_z, .inl (kI, 1000, .inl g_k_z)), (k_l, .inl (kI, 1000, .inl g_k_l)), (k_g, .inl (kI, 1000, .inl g_k_g))] sz) [(h0, .inr (6, [.ref u_z, .ref u_l, .ref u_g, .int u_at, .int u_sf, .int u_sm, .int u_sl, .int u_sh])), (u_z, .inl (kI, 1000, .inl n_z)), (u_l, .inl (kI, 1000, .inl n_ll)), (u_g, .inl (kI, 1000, .inl n_gg)), (a_a, .inr (3, [.ref f_lo, .ref f_hi, .int f_li])), (f_lo, .inl (kI, 200, .inl g_f_lo)), (f_hi, .inl (kI, 200, .inl g_f_hi)), (a_o, .inr (3, [.ref e_lo, .ref e_hi, .int e_li])), (e_lo, .inl (kI, 200, .inl g_e_lo)), (e_hi, .inl (kI, 200, .inl g_e_hi)), (a_k, .inr (6, [.ref k_z, .ref k_l, .ref k_g, .int k_at, .int k_sf, .int k_sm, .int k_sl, .int k_sh])), (k_z, .inl (kI, 1000, .inl g_k_z)), (k_l, .inl (kI, 1000, .inl g_k_l)), (k_g, .inl (kI, 1000, .inl g_k_g))]) (va_A [(h0, .inr (6, [.ref u_z, .ref u_l, .ref u_g, .int u_at, .int u_sf, .int u_sm, .int u_sl, .int u_sh])), (u_z, .inl (kI, 1000, .inl g_u_z)), (u_l, .inl (kI, 1000, .inl g_u_l)), (u_g, .inl (kI, 1000, .inl g_u_g)), (a_a, .inr (3, [.ref f_lo, .ref f_hi, .int f_li])), (f_lo, .inl (kI, 200, .inl g_f_lo)), (f_hi, .inl (kI, 200, .inl g_f_hi)), (a_o, .inr (3, [.ref e_lo, .ref e_hi, .int e_li])), (e_lo, .inl (kI, 200, .inl g_e_lo)), (e_hi, .inl (kI, 200, .inl g_e_hi)), (a_k, .inr (6, [.ref k_z, .ref k_l, .ref k_g, .int k_at, .int k_sf, .int k_sm, .int k_sl, .int k_sh])), (k_z, .inl (kI, 1000, .inl g_k_z)), (k_l, .inl (kI, 1000, .inl g_k_l)), (k_g, .inl (kI, 1000, .inl g_k_g))] sz)) 0 0 (va_A [(h0, .inr (6, [.ref u_z, .ref u_l, .ref u_g, .int u_at, .int u_sf, .int u_sm, .int u_sl, .int u_sh])), (u_z, .inl (kI, 1000, .inl g_u_z)), (u_l, .inl (kI, 1000, .inl g_u_l)), (u_g, .inl (kI, 1000, .inl g_u_g)), (a_a, .inr (3, [.ref f_lo, .ref f_hi, .int f_li])), (f_lo, .inl (kI, 200, .inl g_f_lo)), (f_hi, .inl (kI, 200, .inl g_f_hi)), (a_o, .inr (3, [.ref e_lo, .ref e_hi, .int e_li])), (e_lo, .inl (kI, 200, .inl g_e_lo)), (e_hi, .inl (kI, 200, .inl g_e_hi)), (a_k, .inr (6, [.ref k_z, .ref k_l, .ref k_g, .int k_at, .int k_sf, .int k_sm, .int k_sl, .int k_sh])), (k_z, .inl (kI, 1000, .inl g_k_z)), (k_l, .inl (kI, 1000, .inl g_k_l)), (k_g, .inl (kI, 1000, .inl g_k_g))] sz) := by
  refine Met.ofW (cc := cX6_fillThrough) (maxL := 6) (ret := none) (by decide) rfl ?_
  intro p e s m args below meth c s₁ B hml hv
  obtain ⟨rfl, hsz, hP, hK, hD0⟩ := hv
  have hx := B.exec
  have hb := B.bytes
  have hr := B.returns
  have hts := atoms_spec (ws := w_X6_fillThrough) B.pre
  have hown : s.vm.findClass RX6 = some m.cls := findClass_of_methodNamed B.named
  have hlocks := B.notSynchronized
  subst hsz
  have hD := hD0.self (sz := s.heap.size)
  generalize hAe : va_A [(h0, .inr (6, [.ref u_z, .ref u_l, .ref u_g, .int u_at, .int u_sf, .int u_sm, .int u_sl, .int u_sh])), (u_z, .inl (kI, 1000, .inl g_u_z)), (u_l, .inl (kI, 1000, .inl g_u_l)), (u_g, .inl (kI, 1000, .inl g_u_g)), (a_a, .inr (3, [.ref f_lo, .ref f_hi, .int f_li])), (f_lo, .inl (kI, 200, .inl g_f_lo)), (f_hi, .inl (kI, 200, .inl g_f_hi)), (a_o, .inr (3, [.ref e_lo, .ref e_hi, .int e_li])), (e_lo, .inl (kI, 200, .inl g_e_lo)), (e_hi, .inl (kI, 200, .inl g_e_hi)), (a_k, .inr (6, [.ref k_z, .ref k_l, .ref k_g, .int k_at, .int k_sf, .int k_sm, .int k_sl, .int k_sh])), (k_z, .inl (kI, 1000, .inl g_k_z)), (k_l, .inl (kI, 1000, .inl g_k_l)), (k_g, .inl (kI, 1000, .inl g_k_g))] s.heap.size = A at hD ⊢
  have hA : ∀ q : Nat, s.heap.size ≤ q → A q := fun q h => by rw [← hAe]; exact Or.inr h
  have hS : va_S A s.heap s.heap [] := va_S.rf
  have hP : va_P D vwCl [(h0, .inr (6, [.ref u_z, .ref u_l, .ref u_g, .int u_at, .int u_sf, .int u_sm, .int u_sl, .int u_sh])), (u_z, .inl (kI, 1000, .inl g_u_z)), (u_l, .inl (kI, 1000, .inl g_u_l)), (u_g, .inl (kI, 1000, .inl g_u_g)), (a_a, .inr (3, [.ref f_lo, .ref f_hi, .int f_li])), (f_lo, .inl (kI, 200, .inl g_f_lo)), (f_hi, .inl (kI, 200, .inl g_f_hi)), (a_o, .inr (3, [.ref e_lo, .ref e_hi, .int e_li])), (e_lo, .inl (kI, 200, .inl g_e_lo)), (e_hi, .inl (kI, 200, .inl g_e_hi)), (a_k, .inr (6, [.ref k_z, .ref k_l, .ref k_g, .int k_at, .int k_sf, .int k_sm, .int k_sl, .int k_sh])), (k_z, .inl (kI, 1000, .inl g_k_z)), (k_l, .inl (kI, 1000, .inl g_k_l)), (k_g, .inl (kI, 1000, .inl g_k_g))] s.heap := hP
  have hl := lv_entry ([.ref h0, .ref a_a, .ref a_o, .ref a_k]) (n := 6) (Nat.le_of_ble_eq_true rfl)
  rw [lg_entry_eq]
  generalize (lg_sl ([.ref h0, .ref a_a, .ref a_o, .ref a_k]) ++ List.replicate (6 - (lg_sl ([.ref h0, .ref a_a, .ref a_o, .ref a_k])).length) Slot.unset).toArray = ls at hl ⊢
  have hl : lv_has ls 6 [(0, .ref h0), (1, .ref a_a), (2, .ref a_o), (3, .ref a_k)] := hl
  obtain ⟨H, hHe⟩ : ∃ H : Heap, H = s.heap := ⟨_, rfl⟩
  rw [← hHe] at hP
  have hS : va_S A s.heap H [] := by rw [hHe]; exact hS
  refine pw_heap hHe ?_
  refine lv_aload_n hx hb dX6_fillThrough_0 rfl (lv_at hl 0 rfl) ?_
  have hPc := hP.sub (ws' := [(h0, .inr (6, [.ref u_z, .ref u_l, .ref u_g, .int u_at, .int u_sf, .int u_sm, .int u_sl, .int u_sh])), (u_z, .inl (kI, 1000, .inl g_u_z))]) [0, 1] rfl
  have hKc := hK.sub (tys' := [(kI, .int)]) [0] rfl
  have hDc := hD.sub (ws' := [(h0, .inr (6, [.ref u_z, .ref u_l, .ref u_g, .int u_at, .int u_sf, .int u_sm, .int u_sl, .int u_sh])), (u_z, .inl (kI, 1000, .inl g_u_z))]) [0, 1] (by decide) rfl
  have hFc := va_free (wc := [(h0, .inr (6, [.ref u_z, .ref u_l, .ref u_g, .int u_at, .int u_sf, .int u_sm, .int u_sl, .int u_sh])), (u_z, .inl (kI, 1000, .inl g_u_z))]) hD hS hA [0, 1] rfl
  refine va_callv (va_runV (As := []) (rest := []) ⟨hx, hb, hml, hown, hts⟩ (c_X6_clear l D h0 u_z u_l u_g u_at u_sf u_sm u_sl u_sh kI g_u_z H.size) (cwV 0 hts g_X6_fillThrough_X6_clear rfl rfl rfl (by decide +kernel) ⟨Nat.le_of_ble_eq_true rfl, Nat.le_of_ble_eq_true rfl⟩) ⟨fun a U g mk q => by obtain ⟨q0, q1, qP, qK, qD⟩ := q; exact ⟨q0, q1, qP, va_K.moved (u := U) (U := U.calling g mk a) (Vm.Alike.refl U.vm) qK, qD⟩, va_recv hKc hPc (ci := 6) (q0 := 0) rfl rfl, fun U hU hW => ⟨rfl, by rw [hU], by rw [hU]; exact hPc, va_K.moved hW.alike hKc, hDc.weaken (fun _ _ _ _ => trivial)⟩⟩ rfl rfl hl.1 rfl (lv_room (Nat.le_of_ble_eq_true rfl)) dX6_fillThrough_1 ⟨Nat.le_of_ble_eq_true rfl, Nat.le_of_ble_eq_true rfl⟩) hS (fun q _ h => hFc q h) hFc (fun u t H1 locs ht hvm hw hB hz1 hk1 hS => ?_)
  obtain ⟨y2, hP1, hK1, hD1⟩ := hB
  rw [ht] at hP1
  have hK1 := va_K.moved hvm.symm hK1
  obtain ⟨hP, hD⟩ := va_join (wr := [(u_l, .inl (kI, 1000, .inl g_u_l)), (u_g, .inl (kI, 1000, .inl g_u_g)), (a_a, .inr (3, [.ref f_lo, .ref f_hi, .int f_li])), (f_lo, .inl (kI, 200, .inl g_f_lo)), (f_hi, .inl (kI, 200, .inl g_f_hi)), (a_o, .inr (3, [.ref e_lo, .ref e_hi, .int e_li])), (e_lo, .inl (kI, 200, .inl g_e_lo)), (e_hi, .inl (kI, 200, .inl g_e_hi)), (a_k, .inr (6, [.ref k_z, .ref k_l, .ref k_g, .int k_at, .int k_sf, .int k_sm, .int k_sl, .int k_sh])), (k_z, .inl (kI, 1000, .inl g_k_z)), (k_l, .inl (kI, 1000, .inl g_k_l)), (k_g, .inl (kI, 1000, .inl g_k_g))]) (w1 := [(h0, .inr (6, [.ref u_z, .ref u_l, .ref u_g, .int u_at, .int u_sf, .int u_sm, .int u_sl, .int u_sh])), (u_z, .inl (kI, 1000, .inl y2))]) hP hD [0, 1] [2, 3, 4, 5, 6, 7, 8, 9, 10, 11, 12, 13] rfl rfl (by decide) (by decide) hk1 hFc hP1 hD1
  have hK := (hK.sub (tys' := [(kI, .int)]) [0] rfl).app hK1
  generalize H1 = H at hP hS ⊢
  have hP : va_P D vwCl [(u_l, .inl (kI, 1000, .inl g_u_l)), (u_g, .inl (kI, 1000, .inl g_u_g)), (a_a, .inr (3, [.ref f_lo, .ref f_hi, .int f_li])), (f_lo, .inl (kI, 200, .inl g_f_lo)), (f_hi, .inl (kI, 200, .inl g_f_hi)), (a_o, .inr (3, [.ref e_lo, .ref e_hi, .int e_li])), (e_lo, .inl (kI, 200, .inl g_e_lo)), (e_hi, .inl (kI, 200, .inl g_e_hi)), (a_k, .inr (6, [.ref k_z, .ref k_l, .ref k_g, .int k_at, .int k_sf, .int k_sm, .int k_sl, .int k_sh])), (k_z, .inl (kI, 1000, .inl g_k_z)), (k_l, .inl (kI, 1000, .inl g_k_l)), (k_g, .inl (kI, 1000, .inl g_k_g)), (h0, .inr (6, [.ref u_z, .ref u_l, .ref u_g, .int u_at, .int u_sf, .int u_sm, .int u_sl, .int u_sh])), (u_z, .inl (kI, 1000, .inl y2))] H := hP
  have hD : va_D A [(u_l, .inl (kI, 1000, .inl g_u_l)), (u_g, .inl (kI, 1000, .inl g_u_g)), (a_a, .inr (3, [.ref f_lo, .ref f_hi, .int f_li])), (f_lo, .inl (kI, 200, .inl g_f_lo)), (f_hi, .inl (kI, 200, .inl g_f_hi)), (a_o, .inr (3, [.ref e_lo, .ref e_hi, .int e_li])), (e_lo, .inl (kI, 200, .inl g_e_lo)), (e_hi, .inl (kI, 200, .inl g_e_hi)), (a_k, .inr (6, [.ref k_z, .ref k_l, .ref k_g, .int k_at, .int k_sf, .int k_sm, .int k_sl, .int k_sh])), (k_z, .inl (kI, 1000, .inl g_k_z)), (k_l, .inl (kI, 1000, .inl g_k_l)), (k_g, .inl (kI, 1000, .inl g_k_g)), (h0, .inr (6, [.ref u_z, .ref u_l, .ref u_g, .int u_at, .int u_sf, .int u_sm, .int u_sl, .int u_sh])), (u_z, .inl (kI, 1000, .inl y2))] := hD
  have hK : va_K D vwCl [(kI, .int), (kI, .int)] s := hK
  refine W.widen (k := 0) (n := 0) (Nat.le_of_ble_eq_true rfl) (Nat.le_of_ble_eq_true rfl) ?_
  refine lv_iconst (v := 0) hx hb dX6_fillThrough_4 (by decide) ?_
  refine lv_istore (lv' := [(4, .int 0), (0, .ref h0), (1, .ref a_a), (2, .ref a_o), (3, .ref a_k)]) hx hb dX6_fillThrough_5 hl (by decide) rfl (fun ls hl => ?_)
  have hl9 : lv_has ls 6 [(0, .ref h0), (1, .ref a_a), (2, .ref a_o), (3, .ref a_k), (4, .int 0)] := lv_sub hl [1, 2, 3, 4, 0] rfl
  refine pw_loop (fun (zz : Int32 × (Nat → Int32) × (Nat → Int32) × (Nat → Int32)) H locs ls => match zz with | (v230, f231, f232, f233) => va_P D vwCl [(u_l, .inl (kI, 1000, .inl f231)), (u_g, .inl (kI, 1000, .inl f232)), (a_a, .inr (3, [.ref f_lo, .ref f_hi, .int f_li])), (f_lo, .inl (kI, 200, .inl g_f_lo)), (f_hi, .inl (kI, 200, .inl g_f_hi)), (a_o, .inr (3, [.ref e_lo, .ref e_hi, .int e_li])), (e_lo, .inl (kI, 200, .inl g_e_lo)), (e_hi, .inl (kI, 200, .inl g_e_hi)), (a_k, .inr (6, [.ref k_z, .ref k_l, .ref k_g, .int k_at, .int k_sf, .int k_sm, .int k_sl, .int k_sh])), (k_z, .inl (kI, 1000, .inl g_k_z)), (k_l, .inl (kI, 1000, .inl g_k_l)), (k_g, .inl (kI, 1000, .inl g_k_g)), (h0, .inr (6, [.ref u_z, .ref u_l, .ref u_g, .int u_at, .int u_sf, .int u_sm, .int u_sl, .int u_sh])), (u_z, .inl (kI, 1000, .inl f233))] H ∧ va_D A [(u_l, .inl (kI, 1000, .inl f231)), (u_g, .inl (kI, 1000, .inl f232)), (a_a, .inr (3, [.ref f_lo, .ref f_hi, .int f_li])), (f_lo, .inl (kI, 200, .inl g_f_lo)), (f_hi, .inl (kI, 200, .inl g_f_hi)), (a_o, .inr (3, [.ref e_lo, .ref e_hi, .int e_li])), (e_lo, .inl (kI, 200, .inl g_e_lo)), (e_hi, .inl (kI, 200, .inl g_e_hi)), (a_k, .inr (6, [.ref k_z, .ref k_l, .ref k_g, .int k_at, .int k_sf, .int k_sm, .int k_sl, .int k_sh])), (k_z, .inl (kI, 1000, .inl g_k_z)), (k_l, .inl (kI, 1000, .inl g_k_l)), (k_g, .inl (kI, 1000, .inl g_k_g)), (h0, .inr (6, [.ref u_z, .ref u_l, .ref u_g, .int u_at, .int u_sf, .int u_sm, .int u_sl, .int u_sh])), (u_z, .inl (kI, 1000, .inl f233))] ∧ va_S A s.heap H locs ∧ lv_has ls 6 [(0, .ref h0), (1, .ref a_a), (2, .ref a_o), (3, .ref a_k), (4, .int v230)] ∧ 0 ≤ v230.toInt) (fun (zz : Int32 × (Nat → Int32) × (Nat → Int32) × (Nat → Int32))  => match zz with | (v230, f231, f232, f233) => (2147483648 - v230.toInt).toNat) 0 0 (fun (zz : Int32 × (Nat → Int32) × (Nat → Int32) × (Nat → Int32)) ls => match zz with | (v230, f231, f232, f233) => F0 m 7 ls []) (fun zz H locs ls ih234 hI => ?_) (0, g_u_l, g_u_g, y2) _ _ _ ⟨hP, hD, hS, hl9, (by decide)⟩
  obtain ⟨v230, f231, f232, f233⟩ := zz
  obtain ⟨hP, hD, hS, hl, bv230⟩ := hI
  have bv230 : 0 ≤ v230.toInt := bv230
  have hP : va_P D vwCl [(u_l, .inl (kI, 1000, .inl f231)), (u_g, .inl (kI, 1000, .inl f232)), (a_a, .inr (3, [.ref f_lo, .ref f_hi, .int f_li])), (f_lo, .inl (kI, 200, .inl g_f_lo)), (f_hi, .inl (kI, 200, .inl g_f_hi)), (a_o, .inr (3, [.ref e_lo, .ref e_hi, .int e_li])), (e_lo, .inl (kI, 200, .inl g_e_lo)), (e_hi, .inl (kI, 200, .inl g_e_hi)), (a_k, .inr (6, [.ref k_z, .ref k_l, .ref k_g, .int k_at, .int k_sf, .int k_sm, .int k_sl, .int k_sh])), (k_z, .inl (kI, 1000, .inl g_k_z)), (k_l, .inl (kI, 1000, .inl g_k_l)), (k_g, .inl (kI, 1000, .inl g_k_g)), (h0, .inr (6, [.ref u_z, .ref u_l, .ref u_g, .int u_at, .int u_sf, .int u_sm, .int u_sl, .int u_sh])), (u_z, .inl (kI, 1000, .inl f233))] H := hP
  have hD : va_D A [(u_l, .inl (kI, 1000, .inl f231)), (u_g, .inl (kI, 1000, .inl f232)), (a_a, .inr (3, [.ref f_lo, .ref f_hi, .int f_li])), (f_lo, .inl (kI, 200, .inl g_f_lo)), (f_hi, .inl (kI, 200, .inl g_f_hi)), (a_o, .inr (3, [.ref e_lo, .ref e_hi, .int e_li])), (e_lo, .inl (kI, 200, .inl g_e_lo)), (e_hi, .inl (kI, 200, .inl g_e_hi)), (a_k, .inr (6, [.ref k_z, .ref k_l, .ref k_g, .int k_at, .int k_sf, .int k_sm, .int k_sl, .int k_sh])), (k_z, .inl (kI, 1000, .inl g_k_z)), (k_l, .inl (kI, 1000, .inl g_k_l)), (k_g, .inl (kI, 1000, .inl g_k_g)), (h0, .inr (6, [.ref u_z, .ref u_l, .ref u_g, .int u_at, .int u_sf, .int u_sm, .int u_sl, .int u_sh])), (u_z, .inl (kI, 1000, .inl f233))] := hD
  have hK : va_K D vwCl [(kI, .int), (kI, .int)] s := hK
  have hl : lv_has ls 6 [(0, .ref h0), (1, .ref a_a), (2, .ref a_o), (3, .ref a_k), (4, .int v230)] := hl
  refine W.eq (g2 := F0 m 7 ls []) rfl ?_
  refine lv_iload hx hb dX6_fillThrough_7 (lv_at hl 4 rfl) ?_
  refine lv_aload_n hx hb dX6_fillThrough_9 rfl (lv_at hl 1 rfl) ?_
  have hPc := hP.sub (ws' := [(a_a, .inr (3, [.ref f_lo, .ref f_hi, .int f_li]))]) [2] rfl
  have hKc := hK.sub (tys' := []) [] rfl
  refine va_calli (va_runV (As := []) (rest := [.int v230]) ⟨hx, hb, hml, hown, hts⟩ (c_X3_lines l D a_a f_lo f_hi f_li) (cwV 0 hts g_X6_fillThrough_X3_lines rfl rfl rfl (by decide +kernel) ⟨Nat.le_of_ble_eq_true rfl, Nat.le_of_ble_eq_true rfl⟩) ⟨fun a U g mk q => by obtain ⟨q0, qP, qK⟩ := q; exact ⟨q0, qP, va_K.moved (u := U) (U := U.calling g mk a) (Vm.Alike.refl U.vm) qK⟩, va_recv hKc hPc (ci := 3) (q0 := 0) rfl rfl, fun U hU hW => ⟨rfl, by rw [hU]; exact hPc, va_K.moved hW.alike hKc⟩⟩ rfl rfl hl.1 rfl (lv_room (Nat.le_of_ble_eq_true rfl)) dX6_fillThrough_10 ⟨Nat.le_of_ble_eq_true rfl, Nat.le_of_ble_eq_true rfl⟩) hS (fun _ _ h => h.elim) (fun _ h => h.elim) (fun r235 u t H1 locs ht hvm hw hB hz1 hk1 hS => ?_)
  have hP := pw_keep hP (fun q hq => hk1 q hq (fun h => h))
  generalize H1 = H at hP hS ⊢
  refine W.widen (k := 0) (n := 0) (Nat.le_of_ble_eq_true rfl) (Nat.le_of_ble_eq_true rfl) ?_
  rw [show r235 = f_li from hw]
  refine lv_icmp_ge (tgt := 94) hx hb dX6_fillThrough_13 (by decide) (fun c236 => ?_) (fun c236 => ?_)
  · have nc236 : f_li.toInt ≤ v230.toInt := pw_le c236 rfl rfl
    have mc236v230 := pw_max v230
    have mc236f_li := pw_max f_li
    have hP9 := hP.sub (ws' := [(h0, .inr (6, [.ref u_z, .ref u_l, .ref u_g, .int u_at, .int u_sf, .int u_sm, .int u_sl, .int u_sh])), (u_z, .inl (kI, 1000, .inl f233)), (u_l, .inl (kI, 1000, .inl f231)), (u_g, .inl (kI, 1000, .inl f232)), (a_a, .inr (3, [.ref f_lo, .ref f_hi, .int f_li])), (f_lo, .inl (kI, 200, .inl g_f_lo)), (f_hi, .inl (kI, 200, .inl g_f_hi)), (a_o, .inr (3, [.ref e_lo, .ref e_hi, .int e_li])), (e_lo, .inl (kI, 200, .inl g_e_lo)), (e_hi, .inl (kI, 200, .inl g_e_hi)), (a_k, .inr (6, [.ref k_z, .ref k_l, .ref k_g, .int k_at, .int k_sf, .int k_sm, .int k_sl, .int k_sh])), (k_z, .inl (kI, 1000, .inl g_k_z)), (k_l, .inl (kI, 1000, .inl g_k_l)), (k_g, .inl (kI, 1000, .inl g_k_g))]) [12, 13, 0, 1, 2, 3, 4, 5, 6, 7, 8, 9, 10, 11] rfl
    have hD9 := hD.sub (ws' := [(h0, .inr (6, [.ref u_z, .ref u_l, .ref u_g, .int u_at, .int u_sf, .int u_sm, .int u_sl, .int u_sh])), (u_z, .inl (kI, 1000, .inl f233)), (u_l, .inl (kI, 1000, .inl f231)), (u_g, .inl (kI, 1000, .inl f232)), (a_a, .inr (3, [.ref f_lo, .ref f_hi, .int f_li])), (f_lo, .inl (kI, 200, .inl g_f_lo)), (f_hi, .inl (kI, 200, .inl g_f_hi)), (a_o, .inr (3, [.ref e_lo, .ref e_hi, .int e_li])), (e_lo, .inl (kI, 200, .inl g_e_lo)), (e_hi, .inl (kI, 200, .inl g_e_hi)), (a_k, .inr (6, [.ref k_z, .ref k_l, .ref k_g, .int k_at, .int k_sf, .int k_sm, .int k_sl, .int k_sh])), (k_z, .inl (kI, 1000, .inl g_k_z)), (k_l, .inl (kI, 1000, .inl g_k_l)), (k_g, .inl (kI, 1000, .inl g_k_g))]) [12, 13, 0, 1, 2, 3, 4, 5, 6, 7, 8, 9, 10, 11] (by decide) rfl
    have hK9 := hK.sub (tys' := [(kI, .int)]) [0] rfl
    refine W.widen (k := 0) (n := 0) (Nat.le_of_ble_eq_true rfl) (Nat.le_of_ble_eq_true rfl) ?_
    exact W.vret hx hb hr (fun t ht hW => ⟨⟨(), rfl, trivial, f233, f231, f232, by rw [ht]; exact hP9, va_K.moved hW.alike hK9, hD9⟩, hS.F ht⟩) hS.2.2 dX6_fillThrough_94
  · have nc236 : v230.toInt < f_li.toInt := pw_nle c236 rfl rfl
    have mc236v230 := pw_max v230
    have mc236f_li := pw_max f_li
    refine lv_aload_n hx hb dX6_fillThrough_16 rfl (lv_at hl 1 rfl) ?_
    refine lv_iload hx hb dX6_fillThrough_17 (lv_at hl 4 rfl) ?_
    have hPc := hP.sub (ws' := [(a_a, .inr (3, [.ref f_lo, .ref f_hi, .int f_li])), (f_lo, .inl (kI, 200, .inl g_f_lo))]) [2, 3] rfl
    have hKc := hK.sub (tys' := [(kI, .int)]) [0] rfl
    refine va_calli (va_runV (As := [.int v230]) (rest := []) ⟨hx, hb, hml, hown, hts⟩ (c_X3_isNumbered l D a_a v230 f_lo f_hi f_li kI g_f_lo hg_f_lo) (cwV 1 hts g_X6_fillThrough_X3_isNumbered rfl rfl rfl (by decide +kernel) ⟨Nat.le_of_ble_eq_true rfl, Nat.le_of_ble_eq_true rfl⟩) ⟨fun a U g mk q => by obtain ⟨q0, qP, qK⟩ := q; exact ⟨q0, qP, va_K.moved (u := U) (U := U.calling g mk a) (Vm.Alike.refl U.vm) qK⟩, va_recv hKc hPc (ci := 3) (q0 := 0) rfl rfl, fun U hU hW => ⟨rfl, by rw [hU]; exact hPc, va_K.moved hW.alike hKc⟩⟩ rfl rfl hl.1 rfl (lv_room (Nat.le_of_ble_eq_true rfl)) dX6_fillThrough_19 ⟨Nat.le_of_ble_eq_true rfl, Nat.le_of_ble_eq_true rfl⟩) hS (fun _ _ h => h.elim) (fun _ h => h.elim) (fun r237 u t H1 locs ht hvm hw hB hz1 hk1 hS => ?_)
    have hP := pw_keep hP (fun q hq => hk1 q hq (fun h => h))
    generalize H1 = H at hP hS ⊢
    refine W.widen (k := 0) (n := 0) (Nat.le_of_ble_eq_true rfl) (Nat.le_of_ble_eq_true rfl) ?_
    have bor237 := hw.1
    have zor237 := pw_boolI bor237
    refine pw_join (fun (zz : (Nat → Int32) × (Nat → Int32) × (Nat → Int32)) H locs ls => match zz with | (f290, f291, f292) => va_P D vwCl [(u_l, .inl (kI, 1000, .inl f290)), (u_g, .inl (kI, 1000, .inl f291)), (a_a, .inr (3, [.ref f_lo, .ref f_hi, .int f_li])), (f_lo, .inl (kI, 200, .inl g_f_lo)), (f_hi, .inl (kI, 200, .inl g_f_hi)), (a_o, .inr (3, [.ref e_lo, .ref e_hi, .int e_li])), (e_lo, .inl (kI, 200, .inl g_e_lo)), (e_hi, .inl (kI, 200, .inl g_e_hi)), (a_k, .inr (6, [.ref k_z, .ref k_l, .ref k_g, .int k_at, .int k_sf, .int k_sm, .int k_sl, .int k_sh])), (k_z, .inl (kI, 1000, .inl g_k_z)), (k_l, .inl (kI, 1000, .inl g_k_l)), (k_g, .inl (kI, 1000, .inl g_k_g)), (h0, .inr (6, [.ref u_z, .ref u_l, .ref u_g, .int u_at, .int u_sf, .int u_sm, .int u_sl, .int u_sh])), (u_z, .inl (kI, 1000, .inl f292))] H ∧ va_D A [(u_l, .inl (kI, 1000, .inl f290)), (u_g, .inl (kI, 1000, .inl f291)), (a_a, .inr (3, [.ref f_lo, .ref f_hi, .int f_li])), (f_lo, .inl (kI, 200, .inl g_f_lo)), (f_hi, .inl (kI, 200, .inl g_f_hi)), (a_o, .inr (3, [.ref e_lo, .ref e_hi, .int e_li])), (e_lo, .inl (kI, 200, .inl g_e_lo)), (e_hi, .inl (kI, 200, .inl g_e_hi)), (a_k, .inr (6, [.ref k_z, .ref k_l, .ref k_g, .int k_at, .int k_sf, .int k_sm, .int k_sl, .int k_sh])), (k_z, .inl (kI, 1000, .inl g_k_z)), (k_l, .inl (kI, 1000, .inl g_k_l)), (k_g, .inl (kI, 1000, .inl g_k_g)), (h0, .inr (6, [.ref u_z, .ref u_l, .ref u_g, .int u_at, .int u_sf, .int u_sm, .int u_sl, .int u_sh])), (u_z, .inl (kI, 1000, .inl f292))] ∧ va_S A s.heap H locs ∧ lv_has ls 6 [(0, .ref h0), (1, .ref a_a), (2, .ref a_o), (3, .ref a_k), (4, .int v230)]) 0 0 (fun (zz : (Nat → Int32) × (Nat → Int32) × (Nat → Int32)) ls => match zz with | (f290, f291, f292) => F0 m 88 ls []) (fun zz H locs ls hI => ?_) (fun hJ293 => ?_)
    ·
      obtain ⟨f290, f291, f292⟩ := zz
      obtain ⟨hP, hD, hS, hl⟩ := hI
      have hP : va_P D vwCl [(u_l, .inl (kI, 1000, .inl f290)), (u_g, .inl (kI, 1000, .inl f291)), (a_a, .inr (3, [.ref f_lo, .ref f_hi, .int f_li])), (f_lo, .inl (kI, 200, .inl g_f_lo)), (f_hi, .inl (kI, 200, .inl g_f_hi)), (a_o, .inr (3, [.ref e_lo, .ref e_hi, .int e_li])), (e_lo, .inl (kI, 200, .inl g_e_lo)), (e_hi, .inl (kI, 200, .inl g_e_hi)), (a_k, .inr (6, [.ref k_z, .ref k_l, .ref k_g, .int k_at, .int k_sf, .int k_sm, .int k_sl, .int k_sh])), (k_z, .inl (kI, 1000, .inl g_k_z)), (k_l, .inl (kI, 1000, .inl g_k_l)), (k_g, .inl (kI, 1000, .inl g_k_g)), (h0, .inr (6, [.ref u_z, .ref u_l, .ref u_g, .int u_at, .int u_sf, .int u_sm, .int u_sl, .int u_sh])), (u_z, .inl (kI, 1000, .inl f292))] H := hP
      have hD : va_D A [(u_l, .inl (kI, 1000, .inl f290)), (u_g, .inl (kI, 1000, .inl f291)), (a_a, .inr (3, [.ref f_lo, .ref f_hi, .int f_li])), (f_lo, .inl (kI, 200, .inl g_f_lo)), (f_hi, .inl (kI, 200, .inl g_f_hi)), (a_o, .inr (3, [.ref e_lo, .ref e_hi, .int e_li])), (e_lo, .inl (kI, 200, .inl g_e_lo)), (e_hi, .inl (kI, 200, .inl g_e_hi)), (a_k, .inr (6, [.ref k_z, .ref k_l, .ref k_g, .int k_at, .int k_sf, .int k_sm, .int k_sl, .int k_sh])), (k_z, .inl (kI, 1000, .inl g_k_z)), (k_l, .inl (kI, 1000, .inl g_k_l)), (k_g, .inl (kI, 1000, .inl g_k_g)), (h0, .inr (6, [.ref u_z, .ref u_l, .ref u_g, .int u_at, .int u_sf, .int u_sm, .int u_sl, .int u_sh])), (u_z, .inl (kI, 1000, .inl f292))] := hD
      have hK : va_K D vwCl [(kI, .int), (kI, .int)] s := hK
      have hl : lv_has ls 6 [(0, .ref h0), (1, .ref a_a), (2, .ref a_o), (3, .ref a_k), (4, .int v230)] := hl
      refine W.eq (g2 := F0 m 88 ls []) rfl ?_
      obtain ⟨x294, ex294⟩ : ∃ y : Int32, y = v230 + 1 := ⟨_, rfl⟩
      refine lv_iinc (v := x294) (lv' := [(4, .int x294), (0, .ref h0), (1, .ref a_a), (2, .ref a_o), (3, .ref a_k)]) hx hb dX6_fillThrough_88 hl (k := 4) rfl (by rw [ex294]; rfl) (by decide) rfl (fun ls hl => ?_)
      refine lv_goto (tgt := 7) hx hb dX6_fillThrough_91 (by decide) ?_
      have hP9 : va_P D vwCl [(u_l, .inl (kI, 1000, .inl f290)), (u_g, .inl (kI, 1000, .inl f291)), (a_a, .inr (3, [.ref f_lo, .ref f_hi, .int f_li])), (f_lo, .inl (kI, 200, .inl g_f_lo)), (f_hi, .inl (kI, 200, .inl g_f_hi)), (a_o, .inr (3, [.ref e_lo, .ref e_hi, .int e_li])), (e_lo, .inl (kI, 200, .inl g_e_lo)), (e_hi, .inl (kI, 200, .inl g_e_hi)), (a_k, .inr (6, [.ref k_z, .ref k_l, .ref k_g, .int k_at, .int k_sf, .int k_sm, .int k_sl, .int k_sh])), (k_z, .inl (kI, 1000, .inl g_k_z)), (k_l, .inl (kI, 1000, .inl g_k_l)), (k_g, .inl (kI, 1000, .inl g_k_g)), (h0, .inr (6, [.ref u_z, .ref u_l, .ref u_g, .int u_at, .int u_sf, .int u_sm, .int u_sl, .int u_sh])), (u_z, .inl (kI, 1000, .inl f292))] H := hP.sub [0, 1, 2, 3, 4, 5, 6, 7, 8, 9, 10, 11, 12, 13] rfl
      have hD9 : va_D A [(u_l, .inl (kI, 1000, .inl f290)), (u_g, .inl (kI, 1000, .inl f291)), (a_a, .inr (3, [.ref f_lo, .ref f_hi, .int f_li])), (f_lo, .inl (kI, 200, .inl g_f_lo)), (f_hi, .inl (kI, 200, .inl g_f_hi)), (a_o, .inr (3, [.ref e_lo, .ref e_hi, .int e_li])), (e_lo, .inl (kI, 200, .inl g_e_lo)), (e_hi, .inl (kI, 200, .inl g_e_hi)), (a_k, .inr (6, [.ref k_z, .ref k_l, .ref k_g, .int k_at, .int k_sf, .int k_sm, .int k_sl, .int k_sh])), (k_z, .inl (kI, 1000, .inl g_k_z)), (k_l, .inl (kI, 1000, .inl g_k_l)), (k_g, .inl (kI, 1000, .inl g_k_g)), (h0, .inr (6, [.ref u_z, .ref u_l, .ref u_g, .int u_at, .int u_sf, .int u_sm, .int u_sl, .int u_sh])), (u_z, .inl (kI, 1000, .inl f292))] := hD.sub [0, 1, 2, 3, 4, 5, 6, 7, 8, 9, 10, 11, 12, 13] (by decide) rfl
      have hl9 : lv_has ls 6 [(0, .ref h0), (1, .ref a_a), (2, .ref a_o), (3, .ref a_k), (4, .int x294)] := lv_sub hl [1, 2, 3, 4, 0] rfl
      refine W.widen (k := 0) (n := 0) (Nat.le_of_ble_eq_true rfl) (Nat.le_of_ble_eq_true rfl) ?_
      exact ih234 (x294, f290, f291, f292) _ _ _ (pw_up ex294 (by omega)) ⟨hP9, hD9, hS, hl9, (pw_upge ex294 (by omega) (by omega))⟩
    ·
      refine lv_if_eq (tgt := 88) hx hb dX6_fillThrough_22 (by decide) (fun c295 => ?_) (fun c295 => ?_)
      · have nc295 : r237.toInt = 0 := pw_eq c295 rfl (by decide)
        have hP9 : va_P D vwCl [(u_l, .inl (kI, 1000, .inl f231)), (u_g, .inl (kI, 1000, .inl f232)), (a_a, .inr (3, [.ref f_lo, .ref f_hi, .int f_li])), (f_lo, .inl (kI, 200, .inl g_f_lo)), (f_hi, .inl (kI, 200, .inl g_f_hi)), (a_o, .inr (3, [.ref e_lo, .ref e_hi, .int e_li])), (e_lo, .inl (kI, 200, .inl g_e_lo)), (e_hi, .inl (kI, 200, .inl g_e_hi)), (a_k, .inr (6, [.ref k_z, .ref k_l, .ref k_g, .int k_at, .int k_sf, .int k_sm, .int k_sl, .int k_sh])), (k_z, .inl (kI, 1000, .inl g_k_z)), (k_l, .inl (kI, 1000, .inl g_k_l)), (k_g, .inl (kI, 1000, .inl g_k_g)), (h0, .inr (6, [.ref u_z, .ref u_l, .ref u_g, .int u_at, .int u_sf, .int u_sm, .int u_sl, .int u_sh])), (u_z, .inl (kI, 1000, .inl f233))] H := hP.sub [0, 1, 2, 3, 4, 5, 6, 7, 8, 9, 10, 11, 12, 13] rfl
        have hD9 : va_D A [(u_l, .inl (kI, 1000, .inl f231)), (u_g, .inl (kI, 1000, .inl f232)), (a_a, .inr (3, [.ref f_lo, .ref f_hi, .int f_li])), (f_lo, .inl (kI, 200, .inl g_f_lo)), (f_hi, .inl (kI, 200, .inl g_f_hi)), (a_o, .inr (3, [.ref e_lo, .ref e_hi, .int e_li])), (e_lo, .inl (kI, 200, .inl g_e_lo)), (e_hi, .inl (kI, 200, .inl g_e_hi)), (a_k, .inr (6, [.ref k_z, .ref k_l, .ref k_g, .int k_at, .int k_sf, .int k_sm, .int k_sl, .int k_sh])), (k_z, .inl (kI, 1000, .inl g_k_z)), (k_l, .inl (kI, 1000, .inl g_k_l)), (k_g, .inl (kI, 1000, .inl g_k_g)), (h0, .inr (6, [.ref u_z, .ref u_l, .ref u_g, .int u_at, .int u_sf, .int u_sm, .int u_sl, .int u_sh])), (u_z, .inl (kI, 1000, .inl f233))] := hD.sub [0, 1, 2, 3, 4, 5, 6, 7, 8, 9, 10, 11, 12, 13] (by decide) rfl
        have hl9 : lv_has ls 6 [(0, .ref h0), (1, .ref a_a), (2, .ref a_o), (3, .ref a_k), (4, .int v230)] := lv_sub hl [0, 1, 2, 3, 4] rfl
        refine W.widen (k := 0) (n := 0) (Nat.le_of_ble_eq_true rfl) (Nat.le_of_ble_eq_true rfl) ?_
        exact hJ293 (f231, f232, f233) _ _ _ ⟨hP9, hD9, hS, hl9⟩
      · have nc295 : r237.toInt ≠ 0 := pw_ne c295 rfl (by decide)
        refine lv_aload_n hx hb dX6_fillThrough_25 rfl (lv_at hl 2 rfl) ?_
        refine lv_iload hx hb dX6_fillThrough_26 (lv_at hl 4 rfl) ?_
        have hPc := hP.sub (ws' := [(a_o, .inr (3, [.ref e_lo, .ref e_hi, .int e_li])), (e_lo, .inl (kI, 200, .inl g_e_lo))]) [5, 6] rfl
        have hKc := hK.sub (tys' := [(kI, .int)]) [0] rfl
        refine va_calli (va_runV (As := [.int v230]) (rest := []) ⟨hx, hb, hml, hown, hts⟩ (c_X3_isNumbered l D a_o v230 e_lo e_hi e_li kI g_e_lo hg_e_lo) (cwV 1 hts g_X6_fillThrough_X3_isNumbered rfl rfl rfl (by decide +kernel) ⟨Nat.le_of_ble_eq_true rfl, Nat.le_of_ble_eq_true rfl⟩) ⟨fun a U g mk q => by obtain ⟨q0, qP, qK⟩ := q; exact ⟨q0, qP, va_K.moved (u := U) (U := U.calling g mk a) (Vm.Alike.refl U.vm) qK⟩, va_recv hKc hPc (ci := 3) (q0 := 0) rfl rfl, fun U hU hW => ⟨rfl, by rw [hU]; exact hPc, va_K.moved hW.alike hKc⟩⟩ rfl rfl hl.1 rfl (lv_room (Nat.le_of_ble_eq_true rfl)) dX6_fillThrough_28 ⟨Nat.le_of_ble_eq_true rfl, Nat.le_of_ble_eq_true rfl⟩) hS (fun _ _ h => h.elim) (fun _ h => h.elim) (fun r296 u t H1 locs ht hvm hw hB hz1 hk1 hS => ?_)
        have hP := pw_keep hP (fun q hq => hk1 q hq (fun h => h))
        generalize H1 = H at hP hS ⊢
        refine W.widen (k := 0) (n := 0) (Nat.le_of_ble_eq_true rfl) (Nat.le_of_ble_eq_true rfl) ?_
        have bor296 := hw.1
        have zor296 := pw_boolI bor296
        refine lv_if_ne (tgt := 37) hx hb dX6_fillThrough_31 (by decide) (fun c297 => ?_) (fun c297 => ?_)
        · have nc297 : r296.toInt ≠ 0 := pw_ne c297 rfl (by decide)
          refine lv_aload_n hx hb dX6_fillThrough_37 rfl (lv_at hl 1 rfl) ?_
          refine lv_iload hx hb dX6_fillThrough_38 (lv_at hl 4 rfl) ?_
          have hPc := hP.sub (ws' := [(a_a, .inr (3, [.ref f_lo, .ref f_hi, .int f_li])), (f_lo, .inl (kI, 200, .inl g_f_lo))]) [2, 3] rfl
          have hKc := hK.sub (tys' := [(kI, .int)]) [0] rfl
          refine va_calli (va_runV (As := [.int v230]) (rest := []) ⟨hx, hb, hml, hown, hts⟩ (c_X3_low l D a_a v230 f_lo f_hi f_li kI g_f_lo hg_f_lo) (cwV 1 hts g_X6_fillThrough_X3_low rfl rfl rfl (by decide +kernel) ⟨Nat.le_of_ble_eq_true rfl, Nat.le_of_ble_eq_true rfl⟩) ⟨fun a U g mk q => by obtain ⟨q0, qP, qK⟩ := q; exact ⟨q0, qP, va_K.moved (u := U) (U := U.calling g mk a) (Vm.Alike.refl U.vm) qK⟩, va_recv hKc hPc (ci := 3) (q0 := 0) rfl rfl, fun U hU hW => ⟨rfl, by rw [hU]; exact hPc, va_K.moved hW.alike hKc⟩⟩ rfl rfl hl.1 rfl (lv_room (Nat.le_of_ble_eq_true rfl)) dX6_fillThrough_40 ⟨Nat.le_of_ble_eq_true rfl, Nat.le_of_ble_eq_true rfl⟩) hS (fun _ _ h => h.elim) (fun _ h => h.elim) (fun r298 u t H1 locs ht hvm hw hB hz1 hk1 hS => ?_)
          have hP := pw_keep hP (fun q hq => hk1 q hq (fun h => h))
          generalize H1 = H at hP hS ⊢
          refine W.widen (k := 0) (n := 0) (Nat.le_of_ble_eq_true rfl) (Nat.le_of_ble_eq_true rfl) ?_
          have hfr298 := hw
          refine lv_istore (lv' := [(5, .int r298), (0, .ref h0), (1, .ref a_a), (2, .ref a_o), (3, .ref a_k), (4, .int v230)]) hx hb dX6_fillThrough_43 hl (by decide) rfl (fun ls hl => ?_)
          have hl9 : lv_has ls 6 [(0, .ref h0), (1, .ref a_a), (2, .ref a_o), (3, .ref a_k), (4, .int v230), (5, .int r298)] := lv_sub hl [1, 2, 3, 4, 5, 0] rfl
          refine pw_loop (fun (zz : Int32 × (Nat → Int32) × (Nat → Int32) × (Nat → Int32)) H locs ls => match zz with | (v329, f330, f331, f332) => va_P D vwCl [(u_l, .inl (kI, 1000, .inl f330)), (u_g, .inl (kI, 1000, .inl f331)), (a_a, .inr (3, [.ref f_lo, .ref f_hi, .int f_li])), (f_lo, .inl (kI, 200, .inl g_f_lo)), (f_hi, .inl (kI, 200, .inl g_f_hi)), (a_o, .inr (3, [.ref e_lo, .ref e_hi, .int e_li])), (e_lo, .inl (kI, 200, .inl g_e_lo)), (e_hi, .inl (kI, 200, .inl g_e_hi)), (a_k, .inr (6, [.ref k_z, .ref k_l, .ref k_g, .int k_at, .int k_sf, .int k_sm, .int k_sl, .int k_sh])), (k_z, .inl (kI, 1000, .inl g_k_z)), (k_l, .inl (kI, 1000, .inl g_k_l)), (k_g, .inl (kI, 1000, .inl g_k_g)), (h0, .inr (6, [.ref u_z, .ref u_l, .ref u_g, .int u_at, .int u_sf, .int u_sm, .int u_sl, .int u_sh])), (u_z, .inl (kI, 1000, .inl f332))] H ∧ va_D A [(u_l, .inl (kI, 1000, .inl f330)), (u_g, .inl (kI, 1000, .inl f331)), (a_a, .inr (3, [.ref f_lo, .ref f_hi, .int f_li])), (f_lo, .inl (kI, 200, .inl g_f_lo)), (f_hi, .inl (kI, 200, .inl g_f_hi)), (a_o, .inr (3, [.ref e_lo, .ref e_hi, .int e_li])), (e_lo, .inl (kI, 200, .inl g_e_lo)), (e_hi, .inl (kI, 200, .inl g_e_hi)), (a_k, .inr (6, [.ref k_z, .ref k_l, .ref k_g, .int k_at, .int k_sf, .int k_sm, .int k_sl, .int k_sh])), (k_z, .inl (kI, 1000, .inl g_k_z)), (k_l, .inl (kI, 1000, .inl g_k_l)), (k_g, .inl (kI, 1000, .inl g_k_g)), (h0, .inr (6, [.ref u_z, .ref u_l, .ref u_g, .int u_at, .int u_sf, .int u_sm, .int u_sl, .int u_sh])), (u_z, .inl (kI, 1000, .inl f332))] ∧ va_S A s.heap H locs ∧ lv_has ls 6 [(0, .ref h0), (1, .ref a_a), (2, .ref a_o), (3, .ref a_k), (4, .int v230), (5, .int v329)]) (fun (zz : Int32 × (Nat → Int32) × (Nat → Int32) × (Nat → Int32))  => match zz with | (v329, f330, f331, f332) => (2147483648 - v329.toInt).toNat) 0 0 (fun (zz : Int32 × (Nat → Int32) × (Nat → Int32) × (Nat → Int32)) ls => match zz with | (v329, f330, f331, f332) => F0 m 45 ls []) (fun zz H locs ls ih333 hI => ?_) (r298, f231, f232, f233) _ _ _ ⟨hP, hD, hS, hl9⟩
          obtain ⟨v329, f330, f331, f332⟩ := zz
          obtain ⟨hP, hD, hS, hl⟩ := hI
          have hP : va_P D vwCl [(u_l, .inl (kI, 1000, .inl f330)), (u_g, .inl (kI, 1000, .inl f331)), (a_a, .inr (3, [.ref f_lo, .ref f_hi, .int f_li])), (f_lo, .inl (kI, 200, .inl g_f_lo)), (f_hi, .inl (kI, 200, .inl g_f_hi)), (a_o, .inr (3, [.ref e_lo, .ref e_hi, .int e_li])), (e_lo, .inl (kI, 200, .inl g_e_lo)), (e_hi, .inl (kI, 200, .inl g_e_hi)), (a_k, .inr (6, [.ref k_z, .ref k_l, .ref k_g, .int k_at, .int k_sf, .int k_sm, .int k_sl, .int k_sh])), (k_z, .inl (kI, 1000, .inl g_k_z)), (k_l, .inl (kI, 1000, .inl g_k_l)), (k_g, .inl (kI, 1000, .inl g_k_g)), (h0, .inr (6, [.ref u_z, .ref u_l, .ref u_g, .int u_at, .int u_sf, .int u_sm, .int u_sl, .int u_sh])), (u_z, .inl (kI, 1000, .inl f332))] H := hP
          have hD : va_D A [(u_l, .inl (kI, 1000, .inl f330)), (u_g, .inl (kI, 1000, .inl f331)), (a_a, .inr (3, [.ref f_lo, .ref f_hi, .int f_li])), (f_lo, .inl (kI, 200, .inl g_f_lo)), (f_hi, .inl (kI, 200, .inl g_f_hi)), (a_o, .inr (3, [.ref e_lo, .ref e_hi, .int e_li])), (e_lo, .inl (kI, 200, .inl g_e_lo)), (e_hi, .inl (kI, 200, .inl g_e_hi)), (a_k, .inr (6, [.ref k_z, .ref k_l, .ref k_g, .int k_at, .int k_sf, .int k_sm, .int k_sl, .int k_sh])), (k_z, .inl (kI, 1000, .inl g_k_z)), (k_l, .inl (kI, 1000, .inl g_k_l)), (k_g, .inl (kI, 1000, .inl g_k_g)), (h0, .inr (6, [.ref u_z, .ref u_l, .ref u_g, .int u_at, .int u_sf, .int u_sm, .int u_sl, .int u_sh])), (u_z, .inl (kI, 1000, .inl f332))] := hD
          have hK : va_K D vwCl [(kI, .int), (kI, .int)] s := hK
          have hl : lv_has ls 6 [(0, .ref h0), (1, .ref a_a), (2, .ref a_o), (3, .ref a_k), (4, .int v230), (5, .int v329)] := hl
          refine W.eq (g2 := F0 m 45 ls []) rfl ?_
          refine lv_iload hx hb dX6_fillThrough_45 (lv_at hl 5 rfl) ?_
          refine lv_aload_n hx hb dX6_fillThrough_47 rfl (lv_at hl 1 rfl) ?_
          refine lv_iload hx hb dX6_fillThrough_48 (lv_at hl 4 rfl) ?_
          have hPc := hP.sub (ws' := [(a_a, .inr (3, [.ref f_lo, .ref f_hi, .int f_li])), (f_hi, .inl (kI, 200, .inl g_f_hi))]) [2, 4] rfl
          have hKc := hK.sub (tys' := [(kI, .int)]) [0] rfl
          refine va_calli (va_runV (As := [.int v230]) (rest := [.int v329]) ⟨hx, hb, hml, hown, hts⟩ (c_X3_high l D a_a v230 f_lo f_hi f_li kI g_f_hi hg_f_hi) (cwV 1 hts g_X6_fillThrough_X3_high rfl rfl rfl (by decide +kernel) ⟨Nat.le_of_ble_eq_true rfl, Nat.le_of_ble_eq_true rfl⟩) ⟨fun a U g mk q => by obtain ⟨q0, qP, qK⟩ := q; exact ⟨q0, qP, va_K.moved (u := U) (U := U.calling g mk a) (Vm.Alike.refl U.vm) qK⟩, va_recv hKc hPc (ci := 3) (q0 := 0) rfl rfl, fun U hU hW => ⟨rfl, by rw [hU]; exact hPc, va_K.moved hW.alike hKc⟩⟩ rfl rfl hl.1 rfl (lv_room (Nat.le_of_ble_eq_true rfl)) dX6_fillThrough_50 ⟨Nat.le_of_ble_eq_true rfl, Nat.le_of_ble_eq_true rfl⟩) hS (fun _ _ h => h.elim) (fun _ h => h.elim) (fun r334 u t H1 locs ht hvm hw hB hz1 hk1 hS => ?_)
          have hP := pw_keep hP (fun q hq => hk1 q hq (fun h => h))
          generalize H1 = H at hP hS ⊢
          refine W.widen (k := 0) (n := 0) (Nat.le_of_ble_eq_true rfl) (Nat.le_of_ble_eq_true rfl) ?_
          have hfr334 := hw
          refine lv_icmp_gt (tgt := 88) hx hb dX6_fillThrough_53 (by decide) (fun c335 => ?_) (fun c335 => ?_)
          · have nc335 : r334.toInt < v329.toInt := pw_lt c335 rfl rfl
            have mc335v329 := pw_max v329
            have mc335r334 := pw_max r334
            have hP9 : va_P D vwCl [(u_l, .inl (kI, 1000, .inl f330)), (u_g, .inl (kI, 1000, .inl f331)), (a_a, .inr (3, [.ref f_lo, .ref f_hi, .int f_li])), (f_lo, .inl (kI, 200, .inl g_f_lo)), (f_hi, .inl (kI, 200, .inl g_f_hi)), (a_o, .inr (3, [.ref e_lo, .ref e_hi, .int e_li])), (e_lo, .inl (kI, 200, .inl g_e_lo)), (e_hi, .inl (kI, 200, .inl g_e_hi)), (a_k, .inr (6, [.ref k_z, .ref k_l, .ref k_g, .int k_at, .int k_sf, .int k_sm, .int k_sl, .int k_sh])), (k_z, .inl (kI, 1000, .inl g_k_z)), (k_l, .inl (kI, 1000, .inl g_k_l)), (k_g, .inl (kI, 1000, .inl g_k_g)), (h0, .inr (6, [.ref u_z, .ref u_l, .ref u_g, .int u_at, .int u_sf, .int u_sm, .int u_sl, .int u_sh])), (u_z, .inl (kI, 1000, .inl f332))] H := hP.sub [0, 1, 2, 3, 4, 5, 6, 7, 8, 9, 10, 11, 12, 13] rfl
            have hD9 : va_D A [(u_l, .inl (kI, 1000, .inl f330)), (u_g, .inl (kI, 1000, .inl f331)), (a_a, .inr (3, [.ref f_lo, .ref f_hi, .int f_li])), (f_lo, .inl (kI, 200, .inl g_f_lo)), (f_hi, .inl (kI, 200, .inl g_f_hi)), (a_o, .inr (3, [.ref e_lo, .ref e_hi, .int e_li])), (e_lo, .inl (kI, 200, .inl g_e_lo)), (e_hi, .inl (kI, 200, .inl g_e_hi)), (a_k, .inr (6, [.ref k_z, .ref k_l, .ref k_g, .int k_at, .int k_sf, .int k_sm, .int k_sl, .int k_sh])), (k_z, .inl (kI, 1000, .inl g_k_z)), (k_l, .inl (kI, 1000, .inl g_k_l)), (k_g, .inl (kI, 1000, .inl g_k_g)), (h0, .inr (6, [.ref u_z, .ref u_l, .ref u_g, .int u_at, .int u_sf, .int u_sm, .int u_sl, .int u_sh])), (u_z, .inl (kI, 1000, .inl f332))] := hD.sub [0, 1, 2, 3, 4, 5, 6, 7, 8, 9, 10, 11, 12, 13] (by decide) rfl
            have hl9 : lv_has ls 6 [(0, .ref h0), (1, .ref a_a), (2, .ref a_o), (3, .ref a_k), (4, .int v230)] := lv_sub hl [0, 1, 2, 3, 4] rfl
            refine W.widen (k := 0) (n := 0) (Nat.le_of_ble_eq_true rfl) (Nat.le_of_ble_eq_true rfl) ?_
            exact hJ293 (f330, f331, f332) _ _ _ ⟨hP9, hD9, hS, hl9⟩
          · have nc335 : v329.toInt ≤ r334.toInt := pw_nlt c335 rfl rfl
            have mc335v329 := pw_max v329
            have mc335r334 := pw_max r334
            refine lv_aload_n hx hb dX6_fillThrough_56 rfl (lv_at hl 0 rfl) ?_
            refine lv_iload hx hb dX6_fillThrough_57 (lv_at hl 5 rfl) ?_
            refine lv_aload_n hx hb dX6_fillThrough_59 rfl (lv_at hl 3 rfl) ?_
            refine lv_aload_n hx hb dX6_fillThrough_60 rfl (lv_at hl 2 rfl) ?_
            refine lv_iload hx hb dX6_fillThrough_61 (lv_at hl 4 rfl) ?_
            have hPc := hP.sub (ws' := [(a_o, .inr (3, [.ref e_lo, .ref e_hi, .int e_li])), (e_lo, .inl (kI, 200, .inl g_e_lo))]) [5, 6] rfl
            have hKc := hK.sub (tys' := [(kI, .int)]) [0] rfl
            refine va_calli (va_runV (As := [.int v230]) (rest := [.ref a_k, .int v329, .ref h0]) ⟨hx, hb, hml, hown, hts⟩ (c_X3_low l D a_o v230 e_lo e_hi e_li kI g_e_lo hg_e_lo) (cwV 1 hts g_X6_fillThrough_X3_low rfl rfl rfl (by decide +kernel) ⟨Nat.le_of_ble_eq_true rfl, Nat.le_of_ble_eq_true rfl⟩) ⟨fun a U g mk q => by obtain ⟨q0, qP, qK⟩ := q; exact ⟨q0, qP, va_K.moved (u := U) (U := U.calling g mk a) (Vm.Alike.refl U.vm) qK⟩, va_recv hKc hPc (ci := 3) (q0 := 0) rfl rfl, fun U hU hW => ⟨rfl, by rw [hU]; exact hPc, va_K.moved hW.alike hKc⟩⟩ rfl rfl hl.1 rfl (lv_room (Nat.le_of_ble_eq_true rfl)) dX6_fillThrough_63 ⟨Nat.le_of_ble_eq_true rfl, Nat.le_of_ble_eq_true rfl⟩) hS (fun _ _ h => h.elim) (fun _ h => h.elim) (fun r336 u t H1 locs ht hvm hw hB hz1 hk1 hS => ?_)
            have hP := pw_keep hP (fun q hq => hk1 q hq (fun h => h))
            generalize H1 = H at hP hS ⊢
            refine W.widen (k := 0) (n := 0) (Nat.le_of_ble_eq_true rfl) (Nat.le_of_ble_eq_true rfl) ?_
            have hfr336 := hw
            have hPc := hP.sub (ws' := [(h0, .inr (6, [.ref u_z, .ref u_l, .ref u_g, .int u_at, .int u_sf, .int u_sm, .int u_sl, .int u_sh])), (u_z, .inl (kI, 1000, .inl f332)), (u_l, .inl (kI, 1000, .inl f330)), (u_g, .inl (kI, 1000, .inl f331)), (a_k, .inr (6, [.ref k_z, .ref k_l, .ref k_g, .int k_at, .int k_sf, .int k_sm, .int k_sl, .int k_sh])), (k_z, .inl (kI, 1000, .inl g_k_z)), (k_l, .inl (kI, 1000, .inl g_k_l)), (k_g, .inl (kI, 1000, .inl g_k_g))]) [12, 13, 0, 1, 8, 9, 10, 11] rfl
            have hKc := hK.sub (tys' := [(kI, .int)]) [0] rfl
            have hDc := hD.sub (ws' := [(h0, .inr (6, [.ref u_z, .ref u_l, .ref u_g, .int u_at, .int u_sf, .int u_sm, .int u_sl, .int u_sh])), (u_z, .inl (kI, 1000, .inl f332)), (u_l, .inl (kI, 1000, .inl f330)), (u_g, .inl (kI, 1000, .inl f331)), (a_k, .inr (6, [.ref k_z, .ref k_l, .ref k_g, .int k_at, .int k_sf, .int k_sm, .int k_sl, .int k_sh])), (k_z, .inl (kI, 1000, .inl g_k_z)), (k_l, .inl (kI, 1000, .inl g_k_l)), (k_g, .inl (kI, 1000, .inl g_k_g))]) [12, 13, 0, 1, 8, 9, 10, 11] (by decide) rfl
            have hFc := va_free (wc := [(h0, .inr (6, [.ref u_z, .ref u_l, .ref u_g, .int u_at, .int u_sf, .int u_sm, .int u_sl, .int u_sh])), (u_z, .inl (kI, 1000, .inl f332)), (u_l, .inl (kI, 1000, .inl f330)), (u_g, .inl (kI, 1000, .inl f331)), (a_k, .inr (6, [.ref k_z, .ref k_l, .ref k_g, .int k_at, .int k_sf, .int k_sm, .int k_sl, .int k_sh])), (k_z, .inl (kI, 1000, .inl g_k_z)), (k_l, .inl (kI, 1000, .inl g_k_l)), (k_g, .inl (kI, 1000, .inl g_k_g))]) hD hS hA [12, 13, 0, 1, 8, 9, 10, 11] rfl
            refine va_callv (va_runV (As := [.int v329, .ref a_k, .int r336]) (rest := []) ⟨hx, hb, hml, hown, hts⟩ (c_X6_putSpan l D h0 v329 a_k r336 u_z u_l u_g u_at u_sf u_sm u_sl u_sh kI f332 f330 f331 k_z k_l k_g k_at k_sf k_sm k_sl k_sh g_k_z g_k_l g_k_g H.size) (cwV 3 hts g_X6_fillThrough_X6_putSpan rfl rfl rfl (by decide +kernel) ⟨Nat.le_of_ble_eq_true rfl, Nat.le_of_ble_eq_true rfl⟩) ⟨fun a U g mk q => by obtain ⟨q0, q1, qP, qK, qD⟩ := q; exact ⟨q0, q1, qP, va_K.moved (u := U) (U := U.calling g mk a) (Vm.Alike.refl U.vm) qK, qD⟩, va_recv hKc hPc (ci := 6) (q0 := 0) rfl rfl, fun U hU hW => ⟨rfl, by rw [hU], by rw [hU]; exact hPc, va_K.moved hW.alike hKc, hDc.weaken (fun _ _ _ _ => trivial)⟩⟩ rfl rfl hl.1 rfl (lv_room (Nat.le_of_ble_eq_true rfl)) dX6_fillThrough_66 ⟨Nat.le_of_ble_eq_true rfl, Nat.le_of_ble_eq_true rfl⟩) hS (fun q _ h => hFc q h) hFc (fun u t H1 locs ht hvm hw hB hz1 hk1 hS => ?_)
            obtain ⟨y338, y339, y340, hP1, hK1, hD1⟩ := hB
            rw [ht] at hP1
            have hK1 := va_K.moved hvm.symm hK1
            obtain ⟨hP, hD⟩ := va_join (wr := [(a_a, .inr (3, [.ref f_lo, .ref f_hi, .int f_li])), (f_lo, .inl (kI, 200, .inl g_f_lo)), (f_hi, .inl (kI, 200, .inl g_f_hi)), (a_o, .inr (3, [.ref e_lo, .ref e_hi, .int e_li])), (e_lo, .inl (kI, 200, .inl g_e_lo)), (e_hi, .inl (kI, 200, .inl g_e_hi))]) (w1 := [(h0, .inr (6, [.ref u_z, .ref u_l, .ref u_g, .int u_at, .int u_sf, .int u_sm, .int u_sl, .int u_sh])), (u_z, .inl (kI, 1000, .inl y338)), (u_l, .inl (kI, 1000, .inl y339)), (u_g, .inl (kI, 1000, .inl y340)), (a_k, .inr (6, [.ref k_z, .ref k_l, .ref k_g, .int k_at, .int k_sf, .int k_sm, .int k_sl, .int k_sh])), (k_z, .inl (kI, 1000, .inl g_k_z)), (k_l, .inl (kI, 1000, .inl g_k_l)), (k_g, .inl (kI, 1000, .inl g_k_g))]) hP hD [12, 13, 0, 1, 8, 9, 10, 11] [2, 3, 4, 5, 6, 7] rfl rfl (by decide) (by decide) hk1 hFc hP1 hD1
            have hK := (hK.sub (tys' := [(kI, .int), (kI, .int)]) [0, 1] rfl).app hK1
            generalize H1 = H at hP hS ⊢
            have hP : va_P D vwCl [(a_a, .inr (3, [.ref f_lo, .ref f_hi, .int f_li])), (f_lo, .inl (kI, 200, .inl g_f_lo)), (f_hi, .inl (kI, 200, .inl g_f_hi)), (a_o, .inr (3, [.ref e_lo, .ref e_hi, .int e_li])), (e_lo, .inl (kI, 200, .inl g_e_lo)), (e_hi, .inl (kI, 200, .inl g_e_hi)), (h0, .inr (6, [.ref u_z, .ref u_l, .ref u_g, .int u_at, .int u_sf, .int u_sm, .int u_sl, .int u_sh])), (u_z, .inl (kI, 1000, .inl y338)), (u_l, .inl (kI, 1000, .inl y339)), (u_g, .inl (kI, 1000, .inl y340)), (a_k, .inr (6, [.ref k_z, .ref k_l, .ref k_g, .int k_at, .int k_sf, .int k_sm, .int k_sl, .int k_sh])), (k_z, .inl (kI, 1000, .inl g_k_z)), (k_l, .inl (kI, 1000, .inl g_k_l)), (k_g, .inl (kI, 1000, .inl g_k_g))] H := hP
            have hD : va_D A [(a_a, .inr (3, [.ref f_lo, .ref f_hi, .int f_li])), (f_lo, .inl (kI, 200, .inl g_f_lo)), (f_hi, .inl (kI, 200, .inl g_f_hi)), (a_o, .inr (3, [.ref e_lo, .ref e_hi, .int e_li])), (e_lo, .inl (kI, 200, .inl g_e_lo)), (e_hi, .inl (kI, 200, .inl g_e_hi)), (h0, .inr (6, [.ref u_z, .ref u_l, .ref u_g, .int u_at, .int u_sf, .int u_sm, .int u_sl, .int u_sh])), (u_z, .inl (kI, 1000, .inl y338)), (u_l, .inl (kI, 1000, .inl y339)), (u_g, .inl (kI, 1000, .inl y340)), (a_k, .inr (6, [.ref k_z, .ref k_l, .ref k_g, .int k_at, .int k_sf, .int k_sm, .int k_sl, .int k_sh])), (k_z, .inl (kI, 1000, .inl g_k_z)), (k_l, .inl (kI, 1000, .inl g_k_l)), (k_g, .inl (kI, 1000, .inl g_k_g))] := hD
            have hK : va_K D vwCl [(kI, .int), (kI, .int), (kI, .int)] s := hK
            refine W.widen (k := 0) (n := 0) (Nat.le_of_ble_eq_true rfl) (Nat.le_of_ble_eq_true rfl) ?_
            refine lv_aload_n hx hb dX6_fillThrough_69 rfl (lv_at hl 0 rfl) ?_
            refine lv_iload hx hb dX6_fillThrough_70 (lv_at hl 5 rfl) ?_
            refine lv_aload_n hx hb dX6_fillThrough_72 rfl (lv_at hl 3 rfl) ?_
            refine lv_aload_n hx hb dX6_fillThrough_73 rfl (lv_at hl 2 rfl) ?_
            refine lv_iload hx hb dX6_fillThrough_74 (lv_at hl 4 rfl) ?_
            have hPc := hP.sub (ws' := [(a_o, .inr (3, [.ref e_lo, .ref e_hi, .int e_li])), (e_hi, .inl (kI, 200, .inl g_e_hi))]) [3, 5] rfl
            have hKc := hK.sub (tys' := [(kI, .int)]) [0] rfl
            refine va_calli (va_runV (As := [.int v230]) (rest := [.ref a_k, .int v329, .ref h0]) ⟨hx, hb, hml, hown, hts⟩ (c_X3_high l D a_o v230 e_lo e_hi e_li kI g_e_hi hg_e_hi) (cwV 1 hts g_X6_fillThrough_X3_high rfl rfl rfl (by decide +kernel) ⟨Nat.le_of_ble_eq_true rfl, Nat.le_of_ble_eq_true rfl⟩) ⟨fun a U g mk q => by obtain ⟨q0, qP, qK⟩ := q; exact ⟨q0, qP, va_K.moved (u := U) (U := U.calling g mk a) (Vm.Alike.refl U.vm) qK⟩, va_recv hKc hPc (ci := 3) (q0 := 0) rfl rfl, fun U hU hW => ⟨rfl, by rw [hU]; exact hPc, va_K.moved hW.alike hKc⟩⟩ rfl rfl hl.1 rfl (lv_room (Nat.le_of_ble_eq_true rfl)) dX6_fillThrough_76 ⟨Nat.le_of_ble_eq_true rfl, Nat.le_of_ble_eq_true rfl⟩) hS (fun _ _ h => h.elim) (fun _ h => h.elim) (fun r341 u t H1 locs ht hvm hw hB hz1 hk1 hS => ?_)
            have hP := pw_keep hP (fun q hq => hk1 q hq (fun h => h))
            generalize H1 = H at hP hS ⊢
            refine W.widen (k := 0) (n := 0) (Nat.le_of_ble_eq_true rfl) (Nat.le_of_ble_eq_true rfl) ?_
            have hfr341 := hw
            have hPc := hP.sub (ws' := [(h0, .inr (6, [.ref u_z, .ref u_l, .ref u_g, .int u_at, .int u_sf, .int u_sm, .int u_sl, .int u_sh])), (u_z, .inl (kI, 1000, .inl y338)), (u_l, .inl (kI, 1000, .inl y339)), (u_g, .inl (kI, 1000, .inl y340)), (a_k, .inr (6, [.ref k_z, .ref k_l, .ref k_g, .int k_at, .int k_sf, .int k_sm, .int k_sl, .int k_sh])), (k_z, .inl (kI, 1000, .inl g_k_z)), (k_l, .inl (kI, 1000, .inl g_k_l)), (k_g, .inl (kI, 1000, .inl g_k_g))]) [6, 7, 8, 9, 10, 11, 12, 13] rfl
            have hKc := hK.sub (tys' := [(kI, .int)]) [0] rfl
            have hDc := hD.sub (ws' := [(h0, .inr (6, [.ref u_z, .ref u_l, .ref u_g, .int u_at, .int u_sf, .int u_sm, .int u_sl, .int u_sh])), (u_z, .inl (kI, 1000, .inl y338)), (u_l, .inl (kI, 1000, .inl y339)), (u_g, .inl (kI, 1000, .inl y340)), (a_k, .inr (6, [.ref k_z, .ref k_l, .ref k_g, .int k_at, .int k_sf, .int k_sm, .int k_sl, .int k_sh])), (k_z, .inl (kI, 1000, .inl g_k_z)), (k_l, .inl (kI, 1000, .inl g_k_l)), (k_g, .inl (kI, 1000, .inl g_k_g))]) [6, 7, 8, 9, 10, 11, 12, 13] (by decide) rfl
            have hFc := va_free (wc := [(h0, .inr (6, [.ref u_z, .ref u_l, .ref u_g, .int u_at, .int u_sf, .int u_sm, .int u_sl, .int u_sh])), (u_z, .inl (kI, 1000, .inl y338)), (u_l, .inl (kI, 1000, .inl y339)), (u_g, .inl (kI, 1000, .inl y340)), (a_k, .inr (6, [.ref k_z, .ref k_l, .ref k_g, .int k_at, .int k_sf, .int k_sm, .int k_sl, .int k_sh])), (k_z, .inl (kI, 1000, .inl g_k_z)), (k_l, .inl (kI, 1000, .inl g_k_l)), (k_g, .inl (kI, 1000, .inl g_k_g))]) hD hS hA [6, 7, 8, 9, 10, 11, 12, 13] rfl
            refine va_callv (va_runV (As := [.int v329, .ref a_k, .int r341]) (rest := []) ⟨hx, hb, hml, hown, hts⟩ (c_X6_putSpan l D h0 v329 a_k r341 u_z u_l u_g u_at u_sf u_sm u_sl u_sh kI y338 y339 y340 k_z k_l k_g k_at k_sf k_sm k_sl k_sh g_k_z g_k_l g_k_g H.size) (cwV 3 hts g_X6_fillThrough_X6_putSpan rfl rfl rfl (by decide +kernel) ⟨Nat.le_of_ble_eq_true rfl, Nat.le_of_ble_eq_true rfl⟩) ⟨fun a U g mk q => by obtain ⟨q0, q1, qP, qK, qD⟩ := q; exact ⟨q0, q1, qP, va_K.moved (u := U) (U := U.calling g mk a) (Vm.Alike.refl U.vm) qK, qD⟩, va_recv hKc hPc (ci := 6) (q0 := 0) rfl rfl, fun U hU hW => ⟨rfl, by rw [hU], by rw [hU]; exact hPc, va_K.moved hW.alike hKc, hDc.weaken (fun _ _ _ _ => trivial)⟩⟩ rfl rfl hl.1 rfl (lv_room (Nat.le_of_ble_eq_true rfl)) dX6_fillThrough_79 ⟨Nat.le_of_ble_eq_true rfl, Nat.le_of_ble_eq_true rfl⟩) hS (fun q _ h => hFc q h) hFc (fun u t H1 locs ht hvm hw hB hz1 hk1 hS => ?_)
            obtain ⟨y343, y344, y345, hP1, hK1, hD1⟩ := hB
            rw [ht] at hP1
            have hK1 := va_K.moved hvm.symm hK1
            obtain ⟨hP, hD⟩ := va_join (wr := [(a_a, .inr (3, [.ref f_lo, .ref f_hi, .int f_li])), (f_lo, .inl (kI, 200, .inl g_f_lo)), (f_hi, .inl (kI, 200, .inl g_f_hi)), (a_o, .inr (3, [.ref e_lo, .ref e_hi, .int e_li])), (e_lo, .inl (kI, 200, .inl g_e_lo)), (e_hi, .inl (kI, 200, .inl g_e_hi))]) (w1 := [(h0, .inr (6, [.ref u_z, .ref u_l, .ref u_g, .int u_at, .int u_sf, .int u_sm, .int u_sl, .int u_sh])), (u_z, .inl (kI, 1000, .inl y343)), (u_l, .inl (kI, 1000, .inl y344)), (u_g, .inl (kI, 1000, .inl y345)), (a_k, .inr (6, [.ref k_z, .ref k_l, .ref k_g, .int k_at, .int k_sf, .int k_sm, .int k_sl, .int k_sh])), (k_z, .inl (kI, 1000, .inl g_k_z)), (k_l, .inl (kI, 1000, .inl g_k_l)), (k_g, .inl (kI, 1000, .inl g_k_g))]) hP hD [6, 7, 8, 9, 10, 11, 12, 13] [0, 1, 2, 3, 4, 5] rfl rfl (by decide) (by decide) hk1 hFc hP1 hD1
            have hK := (hK.sub (tys' := [(kI, .int), (kI, .int), (kI, .int)]) [0, 1, 2] rfl).app hK1
            generalize H1 = H at hP hS ⊢
            have hP : va_P D vwCl [(a_a, .inr (3, [.ref f_lo, .ref f_hi, .int f_li])), (f_lo, .inl (kI, 200, .inl g_f_lo)), (f_hi, .inl (kI, 200, .inl g_f_hi)), (a_o, .inr (3, [.ref e_lo, .ref e_hi, .int e_li])), (e_lo, .inl (kI, 200, .inl g_e_lo)), (e_hi, .inl (kI, 200, .inl g_e_hi)), (h0, .inr (6, [.ref u_z, .ref u_l, .ref u_g, .int u_at, .int u_sf, .int u_sm, .int u_sl, .int u_sh])), (u_z, .inl (kI, 1000, .inl y343)), (u_l, .inl (kI, 1000, .inl y344)), (u_g, .inl (kI, 1000, .inl y345)), (a_k, .inr (6, [.ref k_z, .ref k_l, .ref k_g, .int k_at, .int k_sf, .int k_sm, .int k_sl, .int k_sh])), (k_z, .inl (kI, 1000, .inl g_k_z)), (k_l, .inl (kI, 1000, .inl g_k_l)), (k_g, .inl (kI, 1000, .inl g_k_g))] H := hP
            have hD : va_D A [(a_a, .inr (3, [.ref f_lo, .ref f_hi, .int f_li])), (f_lo, .inl (kI, 200, .inl g_f_lo)), (f_hi, .inl (kI, 200, .inl g_f_hi)), (a_o, .inr (3, [.ref e_lo, .ref e_hi, .int e_li])), (e_lo, .inl (kI, 200, .inl g_e_lo)), (e_hi, .inl (kI, 200, .inl g_e_hi)), (h0, .inr (6, [.ref u_z, .ref u_l, .ref u_g, .int u_at, .int u_sf, .int u_sm, .int u_sl, .int u_sh])), (u_z, .inl (kI, 1000, .inl y343)), (u_l, .inl (kI, 1000, .inl y344)), (u_g, .inl (kI, 1000, .inl y345)), (a_k, .inr (6, [.ref k_z, .ref k_l, .ref k_g, .int k_at, .int k_sf, .int k_sm, .int k_sl, .int k_sh])), (k_z, .inl (kI, 1000, .inl g_k_z)), (k_l, .inl (kI, 1000, .inl g_k_l)), (k_g, .inl (kI, 1000, .inl g_k_g))] := hD
            have hK : va_K D vwCl [(kI, .int), (kI, .int), (kI, .int), (kI, .int)] s := hK
            refine W.widen (k := 0) (n := 0) (Nat.le_of_ble_eq_true rfl) (Nat.le_of_ble_eq_true rfl) ?_
            obtain ⟨x346, ex346⟩ : ∃ y : Int32, y = v329 + 1 := ⟨_, rfl⟩
            refine lv_iinc (v := x346) (lv' := [(5, .int x346), (0, .ref h0), (1, .ref a_a), (2, .ref a_o), (3, .ref a_k), (4, .int v230)]) hx hb dX6_fillThrough_82 hl (k := 5) rfl (by rw [ex346]; rfl) (by decide) rfl (fun ls hl => ?_)
            refine lv_goto (tgt := 45) hx hb dX6_fillThrough_85 (by decide) ?_
            have hP9 : va_P D vwCl [(u_l, .inl (kI, 1000, .inl y344)), (u_g, .inl (kI, 1000, .inl y345)), (a_a, .inr (3, [.ref f_lo, .ref f_hi, .int f_li])), (f_lo, .inl (kI, 200, .inl g_f_lo)), (f_hi, .inl (kI, 200, .inl g_f_hi)), (a_o, .inr (3, [.ref e_lo, .ref e_hi, .int e_li])), (e_lo, .inl (kI, 200, .inl g_e_lo)), (e_hi, .inl (kI, 200, .inl g_e_hi)), (a_k, .inr (6, [.ref k_z, .ref k_l, .ref k_g, .int k_at, .int k_sf, .int k_sm, .int k_sl, .int k_sh])), (k_z, .inl (kI, 1000, .inl g_k_z)), (k_l, .inl (kI, 1000, .inl g_k_l)), (k_g, .inl (kI, 1000, .inl g_k_g)), (h0, .inr (6, [.ref u_z, .ref u_l, .ref u_g, .int u_at, .int u_sf, .int u_sm, .int u_sl, .int u_sh])), (u_z, .inl (kI, 1000, .inl y343))] H := hP.sub [8, 9, 0, 1, 2, 3, 4, 5, 10, 11, 12, 13, 6, 7] rfl
            have hD9 : va_D A [(u_l, .inl (kI, 1000, .inl y344)), (u_g, .inl (kI, 1000, .inl y345)), (a_a, .inr (3, [.ref f_lo, .ref f_hi, .int f_li])), (f_lo, .inl (kI, 200, .inl g_f_lo)), (f_hi, .inl (kI, 200, .inl g_f_hi)), (a_o, .inr (3, [.ref e_lo, .ref e_hi, .int e_li])), (e_lo, .inl (kI, 200, .inl g_e_lo)), (e_hi, .inl (kI, 200, .inl g_e_hi)), (a_k, .inr (6, [.ref k_z, .ref k_l, .ref k_g, .int k_at, .int k_sf, .int k_sm, .int k_sl, .int k_sh])), (k_z, .inl (kI, 1000, .inl g_k_z)), (k_l, .inl (kI, 1000, .inl g_k_l)), (k_g, .inl (kI, 1000, .inl g_k_g)), (h0, .inr (6, [.ref u_z, .ref u_l, .ref u_g, .int u_at, .int u_sf, .int u_sm, .int u_sl, .int u_sh])), (u_z, .inl (kI, 1000, .inl y343))] := hD.sub [8, 9, 0, 1, 2, 3, 4, 5, 10, 11, 12, 13, 6, 7] (by decide) rfl
            have hl9 : lv_has ls 6 [(0, .ref h0), (1, .ref a_a), (2, .ref a_o), (3, .ref a_k), (4, .int v230), (5, .int x346)] := lv_sub hl [1, 2, 3, 4, 5, 0] rfl
            refine W.widen (k := 0) (n := 0) (Nat.le_of_ble_eq_true rfl) (Nat.le_of_ble_eq_true rfl) ?_
            exact ih333 (x346, y344, y345, y343) _ _ _ (pw_up ex346 (by omega)) ⟨hP9, hD9, hS, hl9⟩
        · have nc297 : r296.toInt = 0 := pw_eq c297 rfl (by decide)
          refine lv_goto (tgt := 88) hx hb dX6_fillThrough_34 (by decide) ?_
          have hP9 : va_P D vwCl [(u_l, .inl (kI, 1000, .inl f231)), (u_g, .inl (kI, 1000, .inl f232)), (a_a, .inr (3, [.ref f_lo, .ref f_hi, .int f_li])), (f_lo, .inl (kI, 200, .inl g_f_lo)), (f_hi, .inl (kI, 200, .inl g_f_hi)), (a_o, .inr (3, [.ref e_lo, .ref e_hi, .int e_li])), (e_lo, .inl (kI, 200, .inl g_e_lo)), (e_hi, .inl (kI, 200, .inl g_e_hi)), (a_k, .inr (6, [.ref k_z, .ref k_l, .ref k_g, .int k_at, .int k_sf, .int k_sm, .int k_sl, .int k_sh])), (k_z, .inl (kI, 1000, .inl g_k_z)), (k_l, .inl (kI, 1000, .inl g_k_l)), (k_g, .inl (kI, 1000, .inl g_k_g)), (h0, .inr (6, [.ref u_z, .ref u_l, .ref u_g, .int u_at, .int u_sf, .int u_sm, .int u_sl, .int u_sh])), (u_z, .inl (kI, 1000, .inl f233))] H := hP.sub [0, 1, 2, 3, 4, 5, 6, 7, 8, 9, 10, 11, 12, 13] rfl
          have hD9 : va_D A [(u_l, .inl (kI, 1000, .inl f231)), (u_g, .inl (kI, 1000, .inl f232)), (a_a, .inr (3, [.ref f_lo, .ref f_hi, .int f_li])), (f_lo, .inl (kI, 200, .inl g_f_lo)), (f_hi, .inl (kI, 200, .inl g_f_hi)), (a_o, .inr (3, [.ref e_lo, .ref e_hi, .int e_li])), (e_lo, .inl (kI, 200, .inl g_e_lo)), (e_hi, .inl (kI, 200, .inl g_e_hi)), (a_k, .inr (6, [.ref k_z, .ref k_l, .ref k_g, .int k_at, .int k_sf, .int k_sm, .int k_sl, .int k_sh])), (k_z, .inl (kI, 1000, .inl g_k_z)), (k_l, .inl (kI, 1000, .inl g_k_l)), (k_g, .inl (kI, 1000, .inl g_k_g)), (h0, .inr (6, [.ref u_z, .ref u_l, .ref u_g, .int u_at, .int u_sf, .int u_sm, .int u_sl, .int u_sh])), (u_z, .inl (kI, 1000, .inl f233))] := hD.sub [0, 1, 2, 3, 4, 5, 6, 7, 8, 9, 10, 11, 12, 13] (by decide) rfl
          have hl9 : lv_has ls 6 [(0, .ref h0), (1, .ref a_a), (2, .ref a_o), (3, .ref a_k), (4, .int v230)] := lv_sub hl [0, 1, 2, 3, 4] rfl
          refine W.widen (k := 0) (n := 0) (Nat.le_of_ble_eq_true rfl) (Nat.le_of_ble_eq_true rfl) ?_
          exact hJ293 (f231, f232, f233) _ _ _ ⟨hP9, hD9, hS, hl9⟩
def w_X6_numbers : List Cond := .code yX6_numbers cX6_numbers 3 (some .int) :: ([.methodLink RX6 52 yX6_hasSome, .instanceMethod yX6_hasSome, .selects RX6 yX6_hasSome yX6_hasSome, .initialized RX6, .code yX6_hasSome cX6_hasSome 2 (some .boolean), .methodLink RX6 21 yX6_isPlace, .instanceMethod yX6_isPlace, .selects RX6 yX6_isPlace yX6_isPlace, .code yX6_isPlace cX6_isPlace 2 (some .boolean), .fieldLink RX6 9 "LineCites$Spans" "sizes" "[I", .fieldLink RX6 15 "LineCites$Spans" "leasts" "[I", .fieldLink RX6 18 "LineCites$Spans" "greatests" "[I"] ++ wsX60)
set_option maxRecDepth 20000 in
theorem g_X6_numbers_X6_hasSome : GoodIn w_X6_numbers (wsV RX6 52 RX6 yX6_hasSome w_X6_hasSome) := goodIn_r _ [1, 2, 3, 4, 5, 6, 7, 8, 4, 9, 10, 11, 12, 13, 14, 15, 16, 17, 18, 19, 20] rfl (by decide +kernel)
set_option maxHeartbeats 4000000 in
set_option maxRecDepth 100000 in
theorem c_X6_numbers (l : Launch) (D : va_G) (h0 : Nat) (u_z : Nat) (u_l : Nat) (u_g : Nat) (u_at : Int32) (u_sf : Int32) (u_sm : Int32) (u_sl : Int32) (u_sh : Int32) (kI : ClassId) (g_u_z : Nat → Int32) (g_u_l : Nat → Int32) (g_u_g : Nat → Int32) : Met l yX6_numbers w_X6_numbers ({ frames := 2, cells := 0, slots := 0, locals := 42 }) (va_Pc [.ref h0] (fun U => va_P D vwCl [(h0, .inr (6, [.ref u_z, .ref u_l, .ref u_g, .int u_at, .int u_sf, .int u_sm, .int u_sl, .int u_sh])), (u_z, .inl (kI, 1000, .inl g_u_z)), (u_l, .inl (kI, 1000, .inl g_u_l)), (u_g, .inl (kI, 1000, .inl g_u_g))] U.heap ∧ va_K D vwCl [(kI, .int)] U)) (va_Qi (fun (r : Int32) (_ : Unit) => True) (fun _ _ => True) (fun _ => False)) 0 0 (fun _ => False) := by
  refine Met.ofW (cc := cX6_numbers) (maxL := 3) (ret := (some .int)) (by decide) rfl ?_
  intro p e s m args below meth c s₁ B hml hv
  obtain ⟨rfl, hP, hK⟩ := hv
  have hx := B.exec
  have hb := B.bytes
  have hr := B.returns
  have hts := atoms_spec (ws := w_X6_numbers) B.pre
  have hown : s.vm.findClass RX6 = some m.cls := findClass_of_methodNamed B.named
  have hlocks := B.notSynchronized
  have hS : va_S (fun _ : Nat => False) s.heap s.heap [] := va_S.rf
  have hP : va_P D vwCl [(h0, .inr (6, [.ref u_z, .ref u_l, .ref u_g, .int u_at, .int u_sf, .int u_sm, .int u_sl, .int u_sh])), (u_z, .inl (kI, 1000, .inl g_u_z)), (u_l, .inl (kI, 1000, .inl g_u_l)), (u_g, .inl (kI, 1000, .inl g_u_g))] s.heap := hP
  have hl := lv_entry ([.ref h0]) (n := 3) (Nat.le_of_ble_eq_true rfl)
  rw [lg_entry_eq]
  generalize (lg_sl ([.ref h0]) ++ List.replicate (3 - (lg_sl ([.ref h0])).length) Slot.unset).toArray = ls at hl ⊢
  have hl : lv_has ls 3 [(0, .ref h0)] := hl
  obtain ⟨H, hHe⟩ : ∃ H : Heap, H = s.heap := ⟨_, rfl⟩
  rw [← hHe] at hP
  have hS : va_S (fun _ : Nat => False) s.heap H [] := by rw [hHe]; exact hS
  refine pw_heap hHe ?_
  refine lv_iconst (v := 0) hx hb dX6_numbers_0 (by decide) ?_
  refine lv_istore_n (lv' := [(1, .int 0), (0, .ref h0)]) hx hb dX6_numbers_1 rfl hl (by decide) rfl (fun ls hl => ?_)
  refine lv_iconst (v := 1) hx hb dX6_numbers_2 (by decide) ?_
  refine lv_istore_n (lv' := [(2, .int 1), (1, .int 0), (0, .ref h0)]) hx hb dX6_numbers_3 rfl hl (by decide) rfl (fun ls hl => ?_)
  have hl9 : lv_has ls 3 [(0, .ref h0), (1, .int 0), (2, .int 1)] := lv_sub hl [2, 1, 0] rfl
  refine pw_loop (fun (zz : Int32 × Int32) H locs ls => match zz with | (v27, v28) => va_P D vwCl [(h0, .inr (6, [.ref u_z, .ref u_l, .ref u_g, .int u_at, .int u_sf, .int u_sm, .int u_sl, .int u_sh])), (u_z, .inl (kI, 1000, .inl g_u_z)), (u_l, .inl (kI, 1000, .inl g_u_l)), (u_g, .inl (kI, 1000, .inl g_u_g))] H ∧ va_S (fun _ : Nat => False) s.heap H locs ∧ lv_has ls 3 [(0, .ref h0), (1, .int v27), (2, .int v28)] ∧ 1 ≤ v28.toInt) (fun (zz : Int32 × Int32)  => match zz with | (v27, v28) => (2147483648 - v28.toInt).toNat) 0 0 (fun (zz : Int32 × Int32) ls => match zz with | (v27, v28) => F0 m 4 ls []) (fun zz H locs ls ih29 hI => ?_) (0, 1) _ _ _ ⟨hP, hS, hl9, (by decide)⟩
  obtain ⟨v27, v28⟩ := zz
  obtain ⟨hP, hS, hl, bv28⟩ := hI
  have bv28 : 1 ≤ v28.toInt := bv28
  have hP : va_P D vwCl [(h0, .inr (6, [.ref u_z, .ref u_l, .ref u_g, .int u_at, .int u_sf, .int u_sm, .int u_sl, .int u_sh])), (u_z, .inl (kI, 1000, .inl g_u_z)), (u_l, .inl (kI, 1000, .inl g_u_l)), (u_g, .inl (kI, 1000, .inl g_u_g))] H := hP
  have hK : va_K D vwCl [(kI, .int)] s := hK
  have hl : lv_has ls 3 [(0, .ref h0), (1, .int v27), (2, .int v28)] := hl
  refine W.eq (g2 := F0 m 4 ls []) rfl ?_
  refine lv_iload_n hx hb dX6_numbers_4 rfl (lv_at hl 2 rfl) ?_
  refine lv_sipush (v := 999) hx hb dX6_numbers_5 (by decide) ?_
  refine lv_icmp_gt (tgt := 28) hx hb dX6_numbers_8 (by decide) (fun c39 => ?_) (fun c39 => ?_)
  · have nc39 : 999 < v28.toInt := pw_lt c39 (by decide) rfl
    refine lv_iload_n hx hb dX6_numbers_28 rfl (lv_at hl 1 rfl) ?_
    exact W.iret (v := v27) hx hb hr (fun t ht hW => ⟨⟨v27, (), rfl, trivial, trivial⟩, hS.F ht⟩) hS.2.2 dX6_numbers_29
  · have nc39 : v28.toInt ≤ 999 := pw_nlt c39 (by decide) rfl
    refine lv_aload_n hx hb dX6_numbers_11 rfl (lv_at hl 0 rfl) ?_
    refine lv_iload_n hx hb dX6_numbers_12 rfl (lv_at hl 2 rfl) ?_
    have hPc := hP.sub (ws' := [(h0, .inr (6, [.ref u_z, .ref u_l, .ref u_g, .int u_at, .int u_sf, .int u_sm, .int u_sl, .int u_sh])), (u_z, .inl (kI, 1000, .inl g_u_z)), (u_l, .inl (kI, 1000, .inl g_u_l)), (u_g, .inl (kI, 1000, .inl g_u_g))]) [0, 1, 2, 3] rfl
    have hKc := hK.sub (tys' := [(kI, .int)]) [0] rfl
    refine va_calli (va_runV (As := [.int v28]) (rest := []) ⟨hx, hb, hml, hown, hts⟩ (c_X6_hasSome l D h0 v28 u_z u_l u_g u_at u_sf u_sm u_sl u_sh kI g_u_z g_u_l g_u_g) (cwV 1 hts g_X6_numbers_X6_hasSome rfl rfl rfl (by decide +kernel) ⟨Nat.le_of_ble_eq_true rfl, Nat.le_of_ble_eq_true rfl⟩) ⟨fun a U g mk q => by obtain ⟨q0, qP, qK⟩ := q; exact ⟨q0, qP, va_K.moved (u := U) (U := U.calling g mk a) (Vm.Alike.refl U.vm) qK⟩, va_recv hKc hPc (ci := 6) (q0 := 0) rfl rfl, fun U hU hW => ⟨rfl, by rw [hU]; exact hPc, va_K.moved hW.alike hKc⟩⟩ rfl rfl hl.1 rfl (lv_room (Nat.le_of_ble_eq_true rfl)) dX6_numbers_13 ⟨Nat.le_of_ble_eq_true rfl, Nat.le_of_ble_eq_true rfl⟩) hS (fun _ _ h => h.elim) (fun _ h => h.elim) (fun r40 u t H1 locs ht hvm hw hB hz1 hk1 hS => ?_)
    have hP := pw_keep hP (fun q hq => hk1 q hq (fun h => h))
    generalize H1 = H at hP hS ⊢
    refine W.widen (k := 0) (n := 0) (Nat.le_of_ble_eq_true rfl) (Nat.le_of_ble_eq_true rfl) ?_
    have bor40 := hw.1
    have zor40 := pw_boolI bor40
    have hfr40 := hw.2
    refine pw_join (fun (v43 : Int32) H locs ls => va_P D vwCl [(h0, .inr (6, [.ref u_z, .ref u_l, .ref u_g, .int u_at, .int u_sf, .int u_sm, .int u_sl, .int u_sh])), (u_z, .inl (kI, 1000, .inl g_u_z)), (u_l, .inl (kI, 1000, .inl g_u_l)), (u_g, .inl (kI, 1000, .inl g_u_g))] H ∧ va_S (fun _ : Nat => False) s.heap H locs ∧ lv_has ls 3 [(0, .ref h0), (1, .int v43), (2, .int v28)]) 0 0 (fun (v43 : Int32) ls => F0 m 22 ls []) (fun v43 H locs ls hI => ?_) (fun hJ44 => ?_)
    ·
      obtain ⟨hP, hS, hl⟩ := hI
      have hP : va_P D vwCl [(h0, .inr (6, [.ref u_z, .ref u_l, .ref u_g, .int u_at, .int u_sf, .int u_sm, .int u_sl, .int u_sh])), (u_z, .inl (kI, 1000, .inl g_u_z)), (u_l, .inl (kI, 1000, .inl g_u_l)), (u_g, .inl (kI, 1000, .inl g_u_g))] H := hP
      have hK : va_K D vwCl [(kI, .int)] s := hK
      have hl : lv_has ls 3 [(0, .ref h0), (1, .int v43), (2, .int v28)] := hl
      refine W.eq (g2 := F0 m 22 ls []) rfl ?_
      obtain ⟨x45, ex45⟩ : ∃ y : Int32, y = v28 + 1 := ⟨_, rfl⟩
      have tx45 : x45.toInt = v28.toInt + 1 := pw_addX ex45 rfl (by decide) (by omega) (by omega)
      refine lv_iinc (v := x45) (lv' := [(2, .int x45), (0, .ref h0), (1, .int v43)]) hx hb dX6_numbers_22 hl (k := 2) rfl (by rw [ex45]; rfl) (by decide) rfl (fun ls hl => ?_)
      refine lv_goto (tgt := 4) hx hb dX6_numbers_25 (by decide) ?_
      have hP9 : va_P D vwCl [(h0, .inr (6, [.ref u_z, .ref u_l, .ref u_g, .int u_at, .int u_sf, .int u_sm, .int u_sl, .int u_sh])), (u_z, .inl (kI, 1000, .inl g_u_z)), (u_l, .inl (kI, 1000, .inl g_u_l)), (u_g, .inl (kI, 1000, .inl g_u_g))] H := hP.sub [0, 1, 2, 3] rfl
      have hl9 : lv_has ls 3 [(0, .ref h0), (1, .int v43), (2, .int x45)] := lv_sub hl [1, 2, 0] rfl
      refine W.widen (k := 0) (n := 0) (Nat.le_of_ble_eq_true rfl) (Nat.le_of_ble_eq_true rfl) ?_
      exact ih29 (v43, x45) _ _ _ (pw_up ex45 (by omega)) ⟨hP9, hS, hl9, (pw_upge ex45 (by omega) (by omega))⟩
    ·
      refine lv_if_eq (tgt := 22) hx hb dX6_numbers_16 (by decide) (fun c46 => ?_) (fun c46 => ?_)
      · have nc46 : r40.toInt = 0 := pw_eq c46 rfl (by decide)
        have hP9 : va_P D vwCl [(h0, .inr (6, [.ref u_z, .ref u_l, .ref u_g, .int u_at, .int u_sf, .int u_sm, .int u_sl, .int u_sh])), (u_z, .inl (kI, 1000, .inl g_u_z)), (u_l, .inl (kI, 1000, .inl g_u_l)), (u_g, .inl (kI, 1000, .inl g_u_g))] H := hP.sub [0, 1, 2, 3] rfl
        have hl9 : lv_has ls 3 [(0, .ref h0), (1, .int v27), (2, .int v28)] := lv_sub hl [0, 1, 2] rfl
        refine W.widen (k := 0) (n := 0) (Nat.le_of_ble_eq_true rfl) (Nat.le_of_ble_eq_true rfl) ?_
        exact hJ44 v27 _ _ _ ⟨hP9, hS, hl9⟩
      · have nc46 : r40.toInt ≠ 0 := pw_ne c46 rfl (by decide)
        obtain ⟨x47, ex47⟩ : ∃ y : Int32, y = v27 + 1 := ⟨_, rfl⟩
        refine lv_iinc (v := x47) (lv' := [(1, .int x47), (0, .ref h0), (2, .int v28)]) hx hb dX6_numbers_19 hl (k := 1) rfl (by rw [ex47]; rfl) (by decide) rfl (fun ls hl => ?_)
        have hP9 : va_P D vwCl [(h0, .inr (6, [.ref u_z, .ref u_l, .ref u_g, .int u_at, .int u_sf, .int u_sm, .int u_sl, .int u_sh])), (u_z, .inl (kI, 1000, .inl g_u_z)), (u_l, .inl (kI, 1000, .inl g_u_l)), (u_g, .inl (kI, 1000, .inl g_u_g))] H := hP.sub [0, 1, 2, 3] rfl
        have hl9 : lv_has ls 3 [(0, .ref h0), (1, .int x47), (2, .int v28)] := lv_sub hl [1, 0, 2] rfl
        refine W.widen (k := 0) (n := 0) (Nat.le_of_ble_eq_true rfl) (Nat.le_of_ble_eq_true rfl) ?_
        exact hJ44 x47 _ _ _ ⟨hP9, hS, hl9⟩
def w_X6_ofSeveral : List Cond := .code yX6_ofSeveral cX6_ofSeveral 3 (some .int) :: ([.methodLink RX6 52 yX6_hasSome, .instanceMethod yX6_hasSome, .selects RX6 yX6_hasSome yX6_hasSome, .initialized RX6, .code yX6_hasSome cX6_hasSome 2 (some .boolean), .methodLink RX6 21 yX6_isPlace, .instanceMethod yX6_isPlace, .selects RX6 yX6_isPlace yX6_isPlace, .code yX6_isPlace cX6_isPlace 2 (some .boolean), .fieldLink RX6 9 "LineCites$Spans" "sizes" "[I", .fieldLink RX6 15 "LineCites$Spans" "leasts" "[I", .fieldLink RX6 18 "LineCites$Spans" "greatests" "[I"] ++ wsX60)
set_option maxRecDepth 20000 in
theorem g_X6_ofSeveral_X6_hasSome : GoodIn w_X6_ofSeveral (wsV RX6 52 RX6 yX6_hasSome w_X6_hasSome) := goodIn_r _ [1, 2, 3, 4, 5, 6, 7, 8, 4, 9, 10, 11, 12, 13, 14, 15, 16, 17, 18, 19, 20] rfl (by decide +kernel)
set_option maxHeartbeats 4000000 in
set_option maxRecDepth 100000 in
theorem c_X6_ofSeveral (l : Launch) (D : va_G) (h0 : Nat) (u_z : Nat) (u_l : Nat) (u_g : Nat) (u_at : Int32) (u_sf : Int32) (u_sm : Int32) (u_sl : Int32) (u_sh : Int32) (kI : ClassId) (g_u_z : Nat → Int32) (g_u_l : Nat → Int32) (g_u_g : Nat → Int32) : Met l yX6_ofSeveral w_X6_ofSeveral ({ frames := 2, cells := 0, slots := 0, locals := 42 }) (va_Pc [.ref h0] (fun U => va_P D vwCl [(h0, .inr (6, [.ref u_z, .ref u_l, .ref u_g, .int u_at, .int u_sf, .int u_sm, .int u_sl, .int u_sh])), (u_z, .inl (kI, 1000, .inl g_u_z)), (u_l, .inl (kI, 1000, .inl g_u_l)), (u_g, .inl (kI, 1000, .inl g_u_g))] U.heap ∧ va_K D vwCl [(kI, .int)] U)) (va_Qi (fun (r : Int32) (_ : Unit) => True) (fun _ _ => True) (fun _ => False)) 0 0 (fun _ => False) := by
  refine Met.ofW (cc := cX6_ofSeveral) (maxL := 3) (ret := (some .int)) (by decide) rfl ?_
  intro p e s m args below meth c s₁ B hml hv
  obtain ⟨rfl, hP, hK⟩ := hv
  have hx := B.exec
  have hb := B.bytes
  have hr := B.returns
  have hts := atoms_spec (ws := w_X6_ofSeveral) B.pre
  have hown : s.vm.findClass RX6 = some m.cls := findClass_of_methodNamed B.named
  have hlocks := B.notSynchronized
  have hS : va_S (fun _ : Nat => False) s.heap s.heap [] := va_S.rf
  have hP : va_P D vwCl [(h0, .inr (6, [.ref u_z, .ref u_l, .ref u_g, .int u_at, .int u_sf, .int u_sm, .int u_sl, .int u_sh])), (u_z, .inl (kI, 1000, .inl g_u_z)), (u_l, .inl (kI, 1000, .inl g_u_l)), (u_g, .inl (kI, 1000, .inl g_u_g))] s.heap := hP
  have hl := lv_entry ([.ref h0]) (n := 3) (Nat.le_of_ble_eq_true rfl)
  rw [lg_entry_eq]
  generalize (lg_sl ([.ref h0]) ++ List.replicate (3 - (lg_sl ([.ref h0])).length) Slot.unset).toArray = ls at hl ⊢
  have hl : lv_has ls 3 [(0, .ref h0)] := hl
  obtain ⟨H, hHe⟩ : ∃ H : Heap, H = s.heap := ⟨_, rfl⟩
  rw [← hHe] at hP
  have hS : va_S (fun _ : Nat => False) s.heap H [] := by rw [hHe]; exact hS
  refine pw_heap hHe ?_
  refine lv_iconst (v := 0) hx hb dX6_ofSeveral_0 (by decide) ?_
  refine lv_istore_n (lv' := [(1, .int 0), (0, .ref h0)]) hx hb dX6_ofSeveral_1 rfl hl (by decide) rfl (fun ls hl => ?_)
  refine lv_iconst (v := 1) hx hb dX6_ofSeveral_2 (by decide) ?_
  refine lv_istore_n (lv' := [(2, .int 1), (1, .int 0), (0, .ref h0)]) hx hb dX6_ofSeveral_3 rfl hl (by decide) rfl (fun ls hl => ?_)
  have hl9 : lv_has ls 3 [(0, .ref h0), (1, .int 0), (2, .int 1)] := lv_sub hl [2, 1, 0] rfl
  refine pw_loop (fun (zz : Int32 × Int32) H locs ls => match zz with | (v39, v40) => va_P D vwCl [(h0, .inr (6, [.ref u_z, .ref u_l, .ref u_g, .int u_at, .int u_sf, .int u_sm, .int u_sl, .int u_sh])), (u_z, .inl (kI, 1000, .inl g_u_z)), (u_l, .inl (kI, 1000, .inl g_u_l)), (u_g, .inl (kI, 1000, .inl g_u_g))] H ∧ va_S (fun _ : Nat => False) s.heap H locs ∧ lv_has ls 3 [(0, .ref h0), (1, .int v39), (2, .int v40)] ∧ 1 ≤ v40.toInt) (fun (zz : Int32 × Int32)  => match zz with | (v39, v40) => (2147483648 - v40.toInt).toNat) 0 0 (fun (zz : Int32 × Int32) ls => match zz with | (v39, v40) => F0 m 4 ls []) (fun zz H locs ls ih41 hI => ?_) (0, 1) _ _ _ ⟨hP, hS, hl9, (by decide)⟩
  obtain ⟨v39, v40⟩ := zz
  obtain ⟨hP, hS, hl, bv40⟩ := hI
  have bv40 : 1 ≤ v40.toInt := bv40
  have hP : va_P D vwCl [(h0, .inr (6, [.ref u_z, .ref u_l, .ref u_g, .int u_at, .int u_sf, .int u_sm, .int u_sl, .int u_sh])), (u_z, .inl (kI, 1000, .inl g_u_z)), (u_l, .inl (kI, 1000, .inl g_u_l)), (u_g, .inl (kI, 1000, .inl g_u_g))] H := hP
  have hK : va_K D vwCl [(kI, .int)] s := hK
  have hl : lv_has ls 3 [(0, .ref h0), (1, .int v39), (2, .int v40)] := hl
  refine W.eq (g2 := F0 m 4 ls []) rfl ?_
  refine lv_iload_n hx hb dX6_ofSeveral_4 rfl (lv_at hl 2 rfl) ?_
  refine lv_sipush (v := 999) hx hb dX6_ofSeveral_5 (by decide) ?_
  refine lv_icmp_gt (tgt := 38) hx hb dX6_ofSeveral_8 (by decide) (fun c55 => ?_) (fun c55 => ?_)
  · have nc55 : 999 < v40.toInt := pw_lt c55 (by decide) rfl
    refine lv_iload_n hx hb dX6_ofSeveral_38 rfl (lv_at hl 1 rfl) ?_
    exact W.iret (v := v39) hx hb hr (fun t ht hW => ⟨⟨v39, (), rfl, trivial, trivial⟩, hS.F ht⟩) hS.2.2 dX6_ofSeveral_39
  · have nc55 : v40.toInt ≤ 999 := pw_nlt c55 (by decide) rfl
    refine lv_aload_n hx hb dX6_ofSeveral_11 rfl (lv_at hl 0 rfl) ?_
    refine lv_iload_n hx hb dX6_ofSeveral_12 rfl (lv_at hl 2 rfl) ?_
    have hPc := hP.sub (ws' := [(h0, .inr (6, [.ref u_z, .ref u_l, .ref u_g, .int u_at, .int u_sf, .int u_sm, .int u_sl, .int u_sh])), (u_z, .inl (kI, 1000, .inl g_u_z)), (u_l, .inl (kI, 1000, .inl g_u_l)), (u_g, .inl (kI, 1000, .inl g_u_g))]) [0, 1, 2, 3] rfl
    have hKc := hK.sub (tys' := [(kI, .int)]) [0] rfl
    refine va_calli (va_runV (As := [.int v40]) (rest := []) ⟨hx, hb, hml, hown, hts⟩ (c_X6_hasSome l D h0 v40 u_z u_l u_g u_at u_sf u_sm u_sl u_sh kI g_u_z g_u_l g_u_g) (cwV 1 hts g_X6_ofSeveral_X6_hasSome rfl rfl rfl (by decide +kernel) ⟨Nat.le_of_ble_eq_true rfl, Nat.le_of_ble_eq_true rfl⟩) ⟨fun a U g mk q => by obtain ⟨q0, qP, qK⟩ := q; exact ⟨q0, qP, va_K.moved (u := U) (U := U.calling g mk a) (Vm.Alike.refl U.vm) qK⟩, va_recv hKc hPc (ci := 6) (q0 := 0) rfl rfl, fun U hU hW => ⟨rfl, by rw [hU]; exact hPc, va_K.moved hW.alike hKc⟩⟩ rfl rfl hl.1 rfl (lv_room (Nat.le_of_ble_eq_true rfl)) dX6_ofSeveral_13 ⟨Nat.le_of_ble_eq_true rfl, Nat.le_of_ble_eq_true rfl⟩) hS (fun _ _ h => h.elim) (fun _ h => h.elim) (fun r56 u t H1 locs ht hvm hw hB hz1 hk1 hS => ?_)
    have hP := pw_keep hP (fun q hq => hk1 q hq (fun h => h))
    generalize H1 = H at hP hS ⊢
    refine W.widen (k := 0) (n := 0) (Nat.le_of_ble_eq_true rfl) (Nat.le_of_ble_eq_true rfl) ?_
    have bor56 := hw.1
    have zor56 := pw_boolI bor56
    have hfr56 := hw.2
    refine pw_join (fun (v61 : Int32) H locs ls => va_P D vwCl [(h0, .inr (6, [.ref u_z, .ref u_l, .ref u_g, .int u_at, .int u_sf, .int u_sm, .int u_sl, .int u_sh])), (u_z, .inl (kI, 1000, .inl g_u_z)), (u_l, .inl (kI, 1000, .inl g_u_l)), (u_g, .inl (kI, 1000, .inl g_u_g))] H ∧ va_S (fun _ : Nat => False) s.heap H locs ∧ lv_has ls 3 [(0, .ref h0), (1, .int v61), (2, .int v40)]) 0 0 (fun (v61 : Int32) ls => F0 m 32 ls []) (fun v61 H locs ls hI => ?_) (fun hJ62 => ?_)
    ·
      obtain ⟨hP, hS, hl⟩ := hI
      have hP : va_P D vwCl [(h0, .inr (6, [.ref u_z, .ref u_l, .ref u_g, .int u_at, .int u_sf, .int u_sm, .int u_sl, .int u_sh])), (u_z, .inl (kI, 1000, .inl g_u_z)), (u_l, .inl (kI, 1000, .inl g_u_l)), (u_g, .inl (kI, 1000, .inl g_u_g))] H := hP
      have hK : va_K D vwCl [(kI, .int)] s := hK
      have hl : lv_has ls 3 [(0, .ref h0), (1, .int v61), (2, .int v40)] := hl
      refine W.eq (g2 := F0 m 32 ls []) rfl ?_
      obtain ⟨x63, ex63⟩ : ∃ y : Int32, y = v40 + 1 := ⟨_, rfl⟩
      have tx63 : x63.toInt = v40.toInt + 1 := pw_addX ex63 rfl (by decide) (by omega) (by omega)
      refine lv_iinc (v := x63) (lv' := [(2, .int x63), (0, .ref h0), (1, .int v61)]) hx hb dX6_ofSeveral_32 hl (k := 2) rfl (by rw [ex63]; rfl) (by decide) rfl (fun ls hl => ?_)
      refine lv_goto (tgt := 4) hx hb dX6_ofSeveral_35 (by decide) ?_
      have hP9 : va_P D vwCl [(h0, .inr (6, [.ref u_z, .ref u_l, .ref u_g, .int u_at, .int u_sf, .int u_sm, .int u_sl, .int u_sh])), (u_z, .inl (kI, 1000, .inl g_u_z)), (u_l, .inl (kI, 1000, .inl g_u_l)), (u_g, .inl (kI, 1000, .inl g_u_g))] H := hP.sub [0, 1, 2, 3] rfl
      have hl9 : lv_has ls 3 [(0, .ref h0), (1, .int v61), (2, .int x63)] := lv_sub hl [1, 2, 0] rfl
      refine W.widen (k := 0) (n := 0) (Nat.le_of_ble_eq_true rfl) (Nat.le_of_ble_eq_true rfl) ?_
      exact ih41 (v61, x63) _ _ _ (pw_up ex63 (by omega)) ⟨hP9, hS, hl9, (pw_upge ex63 (by omega) (by omega))⟩
    ·
      refine lv_if_eq (tgt := 32) hx hb dX6_ofSeveral_16 (by decide) (fun c64 => ?_) (fun c64 => ?_)
      · have nc64 : r56.toInt = 0 := pw_eq c64 rfl (by decide)
        have hP9 : va_P D vwCl [(h0, .inr (6, [.ref u_z, .ref u_l, .ref u_g, .int u_at, .int u_sf, .int u_sm, .int u_sl, .int u_sh])), (u_z, .inl (kI, 1000, .inl g_u_z)), (u_l, .inl (kI, 1000, .inl g_u_l)), (u_g, .inl (kI, 1000, .inl g_u_g))] H := hP.sub [0, 1, 2, 3] rfl
        have hl9 : lv_has ls 3 [(0, .ref h0), (1, .int v39), (2, .int v40)] := lv_sub hl [0, 1, 2] rfl
        refine W.widen (k := 0) (n := 0) (Nat.le_of_ble_eq_true rfl) (Nat.le_of_ble_eq_true rfl) ?_
        exact hJ62 v39 _ _ _ ⟨hP9, hS, hl9⟩
      · have nc64 : r56.toInt ≠ 0 := pw_ne c64 rfl (by decide)
        refine lv_aload_n hx hb dX6_ofSeveral_19 rfl (lv_at hl 0 rfl) ?_
        refine va_get (D := D) (ci := 6) (v := .ref u_z) (C := RX6) (T := TX6) (N := 8) hx hb hts (fun _ h => List.mem_cons_of_mem _ (List.mem_append_right _ h)) hown hK hP 0 rfl rfl 0 (by decide) (hts (.fieldLink RX6 9 "LineCites$Spans" "sizes" "[I") (List.mem_of_getElem? (i := 10) rfl)) (fun _ h9 => h9) rfl dX6_ofSeveral_20 ?_
        refine lv_iload_n hx hb dX6_ofSeveral_23 rfl (lv_at hl 2 rfl) ?_
        refine va_iald hx hb hK hP 1 0 rfl rfl (vp_in_iff.mpr ⟨by omega, by omega⟩) dX6_ofSeveral_24 ?_
        refine lv_topi (fun x65 ex65 => ?_)
        refine lv_iconst (v := 1) hx hb dX6_ofSeveral_25 (by decide) ?_
        refine lv_icmp_le (tgt := 32) hx hb dX6_ofSeveral_26 (by decide) (fun c66 => ?_) (fun c66 => ?_)
        · have nc66 : x65.toInt ≤ 1 := pw_le c66 rfl (by decide)
          have hP9 : va_P D vwCl [(h0, .inr (6, [.ref u_z, .ref u_l, .ref u_g, .int u_at, .int u_sf, .int u_sm, .int u_sl, .int u_sh])), (u_z, .inl (kI, 1000, .inl g_u_z)), (u_l, .inl (kI, 1000, .inl g_u_l)), (u_g, .inl (kI, 1000, .inl g_u_g))] H := hP.sub [0, 1, 2, 3] rfl
          have hl9 : lv_has ls 3 [(0, .ref h0), (1, .int v39), (2, .int v40)] := lv_sub hl [0, 1, 2] rfl
          refine W.widen (k := 0) (n := 0) (Nat.le_of_ble_eq_true rfl) (Nat.le_of_ble_eq_true rfl) ?_
          exact hJ62 v39 _ _ _ ⟨hP9, hS, hl9⟩
        · have nc66 : 1 < x65.toInt := pw_nle c66 rfl (by decide)
          obtain ⟨x67, ex67⟩ : ∃ y : Int32, y = v39 + 1 := ⟨_, rfl⟩
          refine lv_iinc (v := x67) (lv' := [(1, .int x67), (0, .ref h0), (2, .int v40)]) hx hb dX6_ofSeveral_29 hl (k := 1) rfl (by rw [ex67]; rfl) (by decide) rfl (fun ls hl => ?_)
          have hP9 : va_P D vwCl [(h0, .inr (6, [.ref u_z, .ref u_l, .ref u_g, .int u_at, .int u_sf, .int u_sm, .int u_sl, .int u_sh])), (u_z, .inl (kI, 1000, .inl g_u_z)), (u_l, .inl (kI, 1000, .inl g_u_l)), (u_g, .inl (kI, 1000, .inl g_u_g))] H := hP.sub [0, 1, 2, 3] rfl
          have hl9 : lv_has ls 3 [(0, .ref h0), (1, .int x67), (2, .int v40)] := lv_sub hl [1, 0, 2] rfl
          refine W.widen (k := 0) (n := 0) (Nat.le_of_ble_eq_true rfl) (Nat.le_of_ble_eq_true rfl) ?_
          exact hJ62 x67 _ _ _ ⟨hP9, hS, hl9⟩
def w_X6_scattered : List Cond := .code yX6_scattered cX6_scattered 3 (some .int) :: ([.methodLink RX6 52 yX6_hasSome, .instanceMethod yX6_hasSome, .selects RX6 yX6_hasSome yX6_hasSome, .initialized RX6, .code yX6_hasSome cX6_hasSome 2 (some .boolean), .methodLink RX6 21 yX6_isPlace, .instanceMethod yX6_isPlace, .selects RX6 yX6_isPlace yX6_isPlace, .code yX6_isPlace cX6_isPlace 2 (some .boolean), .fieldLink RX6 9 "LineCites$Spans" "sizes" "[I", .fieldLink RX6 15 "LineCites$Spans" "leasts" "[I", .fieldLink RX6 18 "LineCites$Spans" "greatests" "[I"] ++ wsX60)
set_option maxRecDepth 20000 in
theorem g_X6_scattered_X6_hasSome : GoodIn w_X6_scattered (wsV RX6 52 RX6 yX6_hasSome w_X6_hasSome) := goodIn_r _ [1, 2, 3, 4, 5, 6, 7, 8, 4, 9, 10, 11, 12, 13, 14, 15, 16, 17, 18, 19, 20] rfl (by decide +kernel)
set_option maxHeartbeats 4000000 in
set_option maxRecDepth 100000 in
theorem c_X6_scattered (l : Launch) (D : va_G) (h0 : Nat) (u_z : Nat) (u_l : Nat) (u_g : Nat) (u_at : Int32) (u_sf : Int32) (u_sm : Int32) (u_sl : Int32) (u_sh : Int32) (kI : ClassId) (g_u_z : Nat → Int32) (g_u_l : Nat → Int32) (g_u_g : Nat → Int32) : Met l yX6_scattered w_X6_scattered ({ frames := 2, cells := 0, slots := 0, locals := 42 }) (va_Pc [.ref h0] (fun U => va_P D vwCl [(h0, .inr (6, [.ref u_z, .ref u_l, .ref u_g, .int u_at, .int u_sf, .int u_sm, .int u_sl, .int u_sh])), (u_z, .inl (kI, 1000, .inl g_u_z)), (u_l, .inl (kI, 1000, .inl g_u_l)), (u_g, .inl (kI, 1000, .inl g_u_g))] U.heap ∧ va_K D vwCl [(kI, .int)] U)) (va_Qi (fun (r : Int32) (_ : Unit) => True) (fun _ _ => True) (fun _ => False)) 0 0 (fun _ => False) := by
  refine Met.ofW (cc := cX6_scattered) (maxL := 3) (ret := (some .int)) (by decide) rfl ?_
  intro p e s m args below meth c s₁ B hml hv
  obtain ⟨rfl, hP, hK⟩ := hv
  have hx := B.exec
  have hb := B.bytes
  have hr := B.returns
  have hts := atoms_spec (ws := w_X6_scattered) B.pre
  have hown : s.vm.findClass RX6 = some m.cls := findClass_of_methodNamed B.named
  have hlocks := B.notSynchronized
  have hS : va_S (fun _ : Nat => False) s.heap s.heap [] := va_S.rf
  have hP : va_P D vwCl [(h0, .inr (6, [.ref u_z, .ref u_l, .ref u_g, .int u_at, .int u_sf, .int u_sm, .int u_sl, .int u_sh])), (u_z, .inl (kI, 1000, .inl g_u_z)), (u_l, .inl (kI, 1000, .inl g_u_l)), (u_g, .inl (kI, 1000, .inl g_u_g))] s.heap := hP
  have hl := lv_entry ([.ref h0]) (n := 3) (Nat.le_of_ble_eq_true rfl)
  rw [lg_entry_eq]
  generalize (lg_sl ([.ref h0]) ++ List.replicate (3 - (lg_sl ([.ref h0])).length) Slot.unset).toArray = ls at hl ⊢
  have hl : lv_has ls 3 [(0, .ref h0)] := hl
  obtain ⟨H, hHe⟩ : ∃ H : Heap, H = s.heap := ⟨_, rfl⟩
  rw [← hHe] at hP
  have hS : va_S (fun _ : Nat => False) s.heap H [] := by rw [hHe]; exact hS
  refine pw_heap hHe ?_
  refine lv_iconst (v := 0) hx hb dX6_scattered_0 (by decide) ?_
  refine lv_istore_n (lv' := [(1, .int 0), (0, .ref h0)]) hx hb dX6_scattered_1 rfl hl (by decide) rfl (fun ls hl => ?_)
  refine lv_iconst (v := 1) hx hb dX6_scattered_2 (by decide) ?_
  refine lv_istore_n (lv' := [(2, .int 1), (1, .int 0), (0, .ref h0)]) hx hb dX6_scattered_3 rfl hl (by decide) rfl (fun ls hl => ?_)
  have hl9 : lv_has ls 3 [(0, .ref h0), (1, .int 0), (2, .int 1)] := lv_sub hl [2, 1, 0] rfl
  refine pw_loop (fun (zz : Int32 × Int32) H locs ls => match zz with | (v63, v64) => va_P D vwCl [(h0, .inr (6, [.ref u_z, .ref u_l, .ref u_g, .int u_at, .int u_sf, .int u_sm, .int u_sl, .int u_sh])), (u_z, .inl (kI, 1000, .inl g_u_z)), (u_l, .inl (kI, 1000, .inl g_u_l)), (u_g, .inl (kI, 1000, .inl g_u_g))] H ∧ va_S (fun _ : Nat => False) s.heap H locs ∧ lv_has ls 3 [(0, .ref h0), (1, .int v63), (2, .int v64)] ∧ 1 ≤ v64.toInt) (fun (zz : Int32 × Int32)  => match zz with | (v63, v64) => (2147483648 - v64.toInt).toNat) 0 0 (fun (zz : Int32 × Int32) ls => match zz with | (v63, v64) => F0 m 4 ls []) (fun zz H locs ls ih65 hI => ?_) (0, 1) _ _ _ ⟨hP, hS, hl9, (by decide)⟩
  obtain ⟨v63, v64⟩ := zz
  obtain ⟨hP, hS, hl, bv64⟩ := hI
  have bv64 : 1 ≤ v64.toInt := bv64
  have hP : va_P D vwCl [(h0, .inr (6, [.ref u_z, .ref u_l, .ref u_g, .int u_at, .int u_sf, .int u_sm, .int u_sl, .int u_sh])), (u_z, .inl (kI, 1000, .inl g_u_z)), (u_l, .inl (kI, 1000, .inl g_u_l)), (u_g, .inl (kI, 1000, .inl g_u_g))] H := hP
  have hK : va_K D vwCl [(kI, .int)] s := hK
  have hl : lv_has ls 3 [(0, .ref h0), (1, .int v63), (2, .int v64)] := hl
  refine W.eq (g2 := F0 m 4 ls []) rfl ?_
  refine lv_iload_n hx hb dX6_scattered_4 rfl (lv_at hl 2 rfl) ?_
  refine lv_sipush (v := 999) hx hb dX6_scattered_5 (by decide) ?_
  refine lv_icmp_gt (tgt := 52) hx hb dX6_scattered_8 (by decide) (fun c87 => ?_) (fun c87 => ?_)
  · have nc87 : 999 < v64.toInt := pw_lt c87 (by decide) rfl
    refine lv_iload_n hx hb dX6_scattered_52 rfl (lv_at hl 1 rfl) ?_
    exact W.iret (v := v63) hx hb hr (fun t ht hW => ⟨⟨v63, (), rfl, trivial, trivial⟩, hS.F ht⟩) hS.2.2 dX6_scattered_53
  · have nc87 : v64.toInt ≤ 999 := pw_nlt c87 (by decide) rfl
    refine lv_aload_n hx hb dX6_scattered_11 rfl (lv_at hl 0 rfl) ?_
    refine lv_iload_n hx hb dX6_scattered_12 rfl (lv_at hl 2 rfl) ?_
    have hPc := hP.sub (ws' := [(h0, .inr (6, [.ref u_z, .ref u_l, .ref u_g, .int u_at, .int u_sf, .int u_sm, .int u_sl, .int u_sh])), (u_z, .inl (kI, 1000, .inl g_u_z)), (u_l, .inl (kI, 1000, .inl g_u_l)), (u_g, .inl (kI, 1000, .inl g_u_g))]) [0, 1, 2, 3] rfl
    have hKc := hK.sub (tys' := [(kI, .int)]) [0] rfl
    refine va_calli (va_runV (As := [.int v64]) (rest := []) ⟨hx, hb, hml, hown, hts⟩ (c_X6_hasSome l D h0 v64 u_z u_l u_g u_at u_sf u_sm u_sl u_sh kI g_u_z g_u_l g_u_g) (cwV 1 hts g_X6_scattered_X6_hasSome rfl rfl rfl (by decide +kernel) ⟨Nat.le_of_ble_eq_true rfl, Nat.le_of_ble_eq_true rfl⟩) ⟨fun a U g mk q => by obtain ⟨q0, qP, qK⟩ := q; exact ⟨q0, qP, va_K.moved (u := U) (U := U.calling g mk a) (Vm.Alike.refl U.vm) qK⟩, va_recv hKc hPc (ci := 6) (q0 := 0) rfl rfl, fun U hU hW => ⟨rfl, by rw [hU]; exact hPc, va_K.moved hW.alike hKc⟩⟩ rfl rfl hl.1 rfl (lv_room (Nat.le_of_ble_eq_true rfl)) dX6_scattered_13 ⟨Nat.le_of_ble_eq_true rfl, Nat.le_of_ble_eq_true rfl⟩) hS (fun _ _ h => h.elim) (fun _ h => h.elim) (fun r88 u t H1 locs ht hvm hw hB hz1 hk1 hS => ?_)
    have hP := pw_keep hP (fun q hq => hk1 q hq (fun h => h))
    generalize H1 = H at hP hS ⊢
    refine W.widen (k := 0) (n := 0) (Nat.le_of_ble_eq_true rfl) (Nat.le_of_ble_eq_true rfl) ?_
    have bor88 := hw.1
    have zor88 := pw_boolI bor88
    have hfr88 := hw.2
    refine pw_join (fun (v97 : Int32) H locs ls => va_P D vwCl [(h0, .inr (6, [.ref u_z, .ref u_l, .ref u_g, .int u_at, .int u_sf, .int u_sm, .int u_sl, .int u_sh])), (u_z, .inl (kI, 1000, .inl g_u_z)), (u_l, .inl (kI, 1000, .inl g_u_l)), (u_g, .inl (kI, 1000, .inl g_u_g))] H ∧ va_S (fun _ : Nat => False) s.heap H locs ∧ lv_has ls 3 [(0, .ref h0), (1, .int v97), (2, .int v64)]) 0 0 (fun (v97 : Int32) ls => F0 m 46 ls []) (fun v97 H locs ls hI => ?_) (fun hJ98 => ?_)
    ·
      obtain ⟨hP, hS, hl⟩ := hI
      have hP : va_P D vwCl [(h0, .inr (6, [.ref u_z, .ref u_l, .ref u_g, .int u_at, .int u_sf, .int u_sm, .int u_sl, .int u_sh])), (u_z, .inl (kI, 1000, .inl g_u_z)), (u_l, .inl (kI, 1000, .inl g_u_l)), (u_g, .inl (kI, 1000, .inl g_u_g))] H := hP
      have hK : va_K D vwCl [(kI, .int)] s := hK
      have hl : lv_has ls 3 [(0, .ref h0), (1, .int v97), (2, .int v64)] := hl
      refine W.eq (g2 := F0 m 46 ls []) rfl ?_
      obtain ⟨x99, ex99⟩ : ∃ y : Int32, y = v64 + 1 := ⟨_, rfl⟩
      have tx99 : x99.toInt = v64.toInt + 1 := pw_addX ex99 rfl (by decide) (by omega) (by omega)
      refine lv_iinc (v := x99) (lv' := [(2, .int x99), (0, .ref h0), (1, .int v97)]) hx hb dX6_scattered_46 hl (k := 2) rfl (by rw [ex99]; rfl) (by decide) rfl (fun ls hl => ?_)
      refine lv_goto (tgt := 4) hx hb dX6_scattered_49 (by decide) ?_
      have hP9 : va_P D vwCl [(h0, .inr (6, [.ref u_z, .ref u_l, .ref u_g, .int u_at, .int u_sf, .int u_sm, .int u_sl, .int u_sh])), (u_z, .inl (kI, 1000, .inl g_u_z)), (u_l, .inl (kI, 1000, .inl g_u_l)), (u_g, .inl (kI, 1000, .inl g_u_g))] H := hP.sub [0, 1, 2, 3] rfl
      have hl9 : lv_has ls 3 [(0, .ref h0), (1, .int v97), (2, .int x99)] := lv_sub hl [1, 2, 0] rfl
      refine W.widen (k := 0) (n := 0) (Nat.le_of_ble_eq_true rfl) (Nat.le_of_ble_eq_true rfl) ?_
      exact ih65 (v97, x99) _ _ _ (pw_up ex99 (by omega)) ⟨hP9, hS, hl9, (pw_upge ex99 (by omega) (by omega))⟩
    ·
      refine lv_if_eq (tgt := 46) hx hb dX6_scattered_16 (by decide) (fun c100 => ?_) (fun c100 => ?_)
      · have nc100 : r88.toInt = 0 := pw_eq c100 rfl (by decide)
        have hP9 : va_P D vwCl [(h0, .inr (6, [.ref u_z, .ref u_l, .ref u_g, .int u_at, .int u_sf, .int u_sm, .int u_sl, .int u_sh])), (u_z, .inl (kI, 1000, .inl g_u_z)), (u_l, .inl (kI, 1000, .inl g_u_l)), (u_g, .inl (kI, 1000, .inl g_u_g))] H := hP.sub [0, 1, 2, 3] rfl
        have hl9 : lv_has ls 3 [(0, .ref h0), (1, .int v63), (2, .int v64)] := lv_sub hl [0, 1, 2] rfl
        refine W.widen (k := 0) (n := 0) (Nat.le_of_ble_eq_true rfl) (Nat.le_of_ble_eq_true rfl) ?_
        exact hJ98 v63 _ _ _ ⟨hP9, hS, hl9⟩
      · have nc100 : r88.toInt ≠ 0 := pw_ne c100 rfl (by decide)
        refine lv_aload_n hx hb dX6_scattered_19 rfl (lv_at hl 0 rfl) ?_
        refine va_get (D := D) (ci := 6) (v := .ref u_g) (C := RX6) (T := TX6) (N := 8) hx hb hts (fun _ h => List.mem_cons_of_mem _ (List.mem_append_right _ h)) hown hK hP 0 rfl rfl 2 (by decide) (hts (.fieldLink RX6 18 "LineCites$Spans" "greatests" "[I") (List.mem_of_getElem? (i := 12) rfl)) (fun _ h9 => h9) rfl dX6_scattered_20 ?_
        refine lv_iload_n hx hb dX6_scattered_23 rfl (lv_at hl 2 rfl) ?_
        refine va_iald hx hb hK hP 3 0 rfl rfl (vp_in_iff.mpr ⟨by omega, by omega⟩) dX6_scattered_24 ?_
        refine lv_topi (fun x101 ex101 => ?_)
        refine lv_aload_n hx hb dX6_scattered_25 rfl (lv_at hl 0 rfl) ?_
        refine va_get (D := D) (ci := 6) (v := .ref u_l) (C := RX6) (T := TX6) (N := 8) hx hb hts (fun _ h => List.mem_cons_of_mem _ (List.mem_append_right _ h)) hown hK hP 0 rfl rfl 1 (by decide) (hts (.fieldLink RX6 15 "LineCites$Spans" "leasts" "[I") (List.mem_of_getElem? (i := 11) rfl)) (fun _ h9 => h9) rfl dX6_scattered_26 ?_
        refine lv_iload_n hx hb dX6_scattered_29 rfl (lv_at hl 2 rfl) ?_
        refine va_iald hx hb hK hP 2 0 rfl rfl (vp_in_iff.mpr ⟨by omega, by omega⟩) dX6_scattered_30 ?_
        refine lv_topi (fun x102 ex102 => ?_)
        refine lv_isub hx hb dX6_scattered_31 ?_
        refine lv_topi (fun x103 ex103 => ?_)
        refine lv_iconst (v := 1) hx hb dX6_scattered_32 (by decide) ?_
        refine lv_iadd hx hb dX6_scattered_33 ?_
        refine lv_topi (fun x104 ex104 => ?_)
        refine lv_aload_n hx hb dX6_scattered_34 rfl (lv_at hl 0 rfl) ?_
        refine va_get (D := D) (ci := 6) (v := .ref u_z) (C := RX6) (T := TX6) (N := 8) hx hb hts (fun _ h => List.mem_cons_of_mem _ (List.mem_append_right _ h)) hown hK hP 0 rfl rfl 0 (by decide) (hts (.fieldLink RX6 9 "LineCites$Spans" "sizes" "[I") (List.mem_of_getElem? (i := 10) rfl)) (fun _ h9 => h9) rfl dX6_scattered_35 ?_
        refine lv_iload_n hx hb dX6_scattered_38 rfl (lv_at hl 2 rfl) ?_
        refine va_iald hx hb hK hP 1 0 rfl rfl (vp_in_iff.mpr ⟨by omega, by omega⟩) dX6_scattered_39 ?_
        refine lv_topi (fun x105 ex105 => ?_)
        refine lv_icmp_eq (tgt := 46) hx hb dX6_scattered_40 (by decide) (fun c106 => ?_) (fun c106 => ?_)
        · have nc106 : x104.toInt = x105.toInt := pw_eq c106 rfl rfl
          have mc106x104 := pw_max x104
          have mc106x105 := pw_max x105
          have hP9 : va_P D vwCl [(h0, .inr (6, [.ref u_z, .ref u_l, .ref u_g, .int u_at, .int u_sf, .int u_sm, .int u_sl, .int u_sh])), (u_z, .inl (kI, 1000, .inl g_u_z)), (u_l, .inl (kI, 1000, .inl g_u_l)), (u_g, .inl (kI, 1000, .inl g_u_g))] H := hP.sub [0, 1, 2, 3] rfl
          have hl9 : lv_has ls 3 [(0, .ref h0), (1, .int v63), (2, .int v64)] := lv_sub hl [0, 1, 2] rfl
          refine W.widen (k := 0) (n := 0) (Nat.le_of_ble_eq_true rfl) (Nat.le_of_ble_eq_true rfl) ?_
          exact hJ98 v63 _ _ _ ⟨hP9, hS, hl9⟩
        · have nc106 : x104.toInt ≠ x105.toInt := pw_ne c106 rfl rfl
          have mc106x104 := pw_max x104
          have mc106x105 := pw_max x105
          obtain ⟨x107, ex107⟩ : ∃ y : Int32, y = v63 + 1 := ⟨_, rfl⟩
          refine lv_iinc (v := x107) (lv' := [(1, .int x107), (0, .ref h0), (2, .int v64)]) hx hb dX6_scattered_43 hl (k := 1) rfl (by rw [ex107]; rfl) (by decide) rfl (fun ls hl => ?_)
          have hP9 : va_P D vwCl [(h0, .inr (6, [.ref u_z, .ref u_l, .ref u_g, .int u_at, .int u_sf, .int u_sm, .int u_sl, .int u_sh])), (u_z, .inl (kI, 1000, .inl g_u_z)), (u_l, .inl (kI, 1000, .inl g_u_l)), (u_g, .inl (kI, 1000, .inl g_u_g))] H := hP.sub [0, 1, 2, 3] rfl
          have hl9 : lv_has ls 3 [(0, .ref h0), (1, .int x107), (2, .int v64)] := lv_sub hl [1, 0, 2] rfl
          refine W.widen (k := 0) (n := 0) (Nat.le_of_ble_eq_true rfl) (Nat.le_of_ble_eq_true rfl) ?_
          exact hJ98 x107 _ _ _ ⟨hP9, hS, hl9⟩
def w_X6_ofDoubt : List Cond := .code yX6_ofDoubt cX6_ofDoubt 4 (some .int) :: ([.methodLink RX6 52 yX6_hasSome, .instanceMethod yX6_hasSome, .selects RX6 yX6_hasSome yX6_hasSome, .initialized RX6, .code yX6_hasSome cX6_hasSome 2 (some .boolean), .methodLink RX6 21 yX6_isPlace, .instanceMethod yX6_isPlace, .selects RX6 yX6_isPlace yX6_isPlace, .code yX6_isPlace cX6_isPlace 2 (some .boolean), .fieldLink RX6 9 "LineCites$Spans" "sizes" "[I", .fieldLink RX6 15 "LineCites$Spans" "leasts" "[I", .fieldLink RX6 18 "LineCites$Spans" "greatests" "[I"] ++ wsX60)
set_option maxRecDepth 20000 in
theorem g_X6_ofDoubt_X6_hasSome : GoodIn w_X6_ofDoubt (wsV RX6 52 RX6 yX6_hasSome w_X6_hasSome) := goodIn_r _ [1, 2, 3, 4, 5, 6, 7, 8, 4, 9, 10, 11, 12, 13, 14, 15, 16, 17, 18, 19, 20] rfl (by decide +kernel)
set_option maxHeartbeats 4000000 in
set_option maxRecDepth 100000 in
theorem c_X6_ofDoubt (l : Launch) (D : va_G) (h0 : Nat) (i_w : Int32) (u_z : Nat) (u_l : Nat) (u_g : Nat) (u_at : Int32) (u_sf : Int32) (u_sm : Int32) (u_sl : Int32) (u_sh : Int32) (kI : ClassId) (g_u_z : Nat → Int32) (g_u_l : Nat → Int32) (g_u_g : Nat → Int32) : Met l yX6_ofDoubt w_X6_ofDoubt ({ frames := 2, cells := 0, slots := 0, locals := 42 }) (va_Pc [.ref h0, .int i_w] (fun U => va_P D vwCl [(h0, .inr (6, [.ref u_z, .ref u_l, .ref u_g, .int u_at, .int u_sf, .int u_sm, .int u_sl, .int u_sh])), (u_z, .inl (kI, 1000, .inl g_u_z)), (u_l, .inl (kI, 1000, .inl g_u_l)), (u_g, .inl (kI, 1000, .inl g_u_g))] U.heap ∧ va_K D vwCl [(kI, .int)] U)) (va_Qi (fun (r : Int32) (_ : Unit) => True) (fun _ _ => True) (fun _ => False)) 0 0 (fun _ => False) := by
  refine Met.ofW (cc := cX6_ofDoubt) (maxL := 4) (ret := (some .int)) (by decide) rfl ?_
  intro p e s m args below meth c s₁ B hml hv
  obtain ⟨rfl, hP, hK⟩ := hv
  have hx := B.exec
  have hb := B.bytes
  have hr := B.returns
  have hts := atoms_spec (ws := w_X6_ofDoubt) B.pre
  have hown : s.vm.findClass RX6 = some m.cls := findClass_of_methodNamed B.named
  have hlocks := B.notSynchronized
  have hS : va_S (fun _ : Nat => False) s.heap s.heap [] := va_S.rf
  have hP : va_P D vwCl [(h0, .inr (6, [.ref u_z, .ref u_l, .ref u_g, .int u_at, .int u_sf, .int u_sm, .int u_sl, .int u_sh])), (u_z, .inl (kI, 1000, .inl g_u_z)), (u_l, .inl (kI, 1000, .inl g_u_l)), (u_g, .inl (kI, 1000, .inl g_u_g))] s.heap := hP
  have hl := lv_entry ([.ref h0, .int i_w]) (n := 4) (Nat.le_of_ble_eq_true rfl)
  rw [lg_entry_eq]
  generalize (lg_sl ([.ref h0, .int i_w]) ++ List.replicate (4 - (lg_sl ([.ref h0, .int i_w])).length) Slot.unset).toArray = ls at hl ⊢
  have hl : lv_has ls 4 [(0, .ref h0), (1, .int i_w)] := hl
  obtain ⟨H, hHe⟩ : ∃ H : Heap, H = s.heap := ⟨_, rfl⟩
  rw [← hHe] at hP
  have hS : va_S (fun _ : Nat => False) s.heap H [] := by rw [hHe]; exact hS
  refine pw_heap hHe ?_
  refine lv_iconst (v := 0) hx hb dX6_ofDoubt_0 (by decide) ?_
  refine lv_istore_n (lv' := [(2, .int 0), (0, .ref h0), (1, .int i_w)]) hx hb dX6_ofDoubt_1 rfl hl (by decide) rfl (fun ls hl => ?_)
  refine lv_iconst (v := 1) hx hb dX6_ofDoubt_2 (by decide) ?_
  refine lv_istore_n (lv' := [(3, .int 1), (2, .int 0), (0, .ref h0), (1, .int i_w)]) hx hb dX6_ofDoubt_3 rfl hl (by decide) rfl (fun ls hl => ?_)
  have hl9 : lv_has ls 4 [(0, .ref h0), (1, .int i_w), (2, .int 0), (3, .int 1)] := lv_sub hl [2, 3, 1, 0] rfl
  refine pw_loop (fun (zz : Int32 × Int32) H locs ls => match zz with | (v69, v70) => va_P D vwCl [(h0, .inr (6, [.ref u_z, .ref u_l, .ref u_g, .int u_at, .int u_sf, .int u_sm, .int u_sl, .int u_sh])), (u_z, .inl (kI, 1000, .inl g_u_z)), (u_l, .inl (kI, 1000, .inl g_u_l)), (u_g, .inl (kI, 1000, .inl g_u_g))] H ∧ va_S (fun _ : Nat => False) s.heap H locs ∧ lv_has ls 4 [(0, .ref h0), (1, .int i_w), (2, .int v69), (3, .int v70)] ∧ 1 ≤ v70.toInt) (fun (zz : Int32 × Int32)  => match zz with | (v69, v70) => (2147483648 - v70.toInt).toNat) 0 0 (fun (zz : Int32 × Int32) ls => match zz with | (v69, v70) => F0 m 4 ls []) (fun zz H locs ls ih71 hI => ?_) (0, 1) _ _ _ ⟨hP, hS, hl9, (by decide)⟩
  obtain ⟨v69, v70⟩ := zz
  obtain ⟨hP, hS, hl, bv70⟩ := hI
  have bv70 : 1 ≤ v70.toInt := bv70
  have hP : va_P D vwCl [(h0, .inr (6, [.ref u_z, .ref u_l, .ref u_g, .int u_at, .int u_sf, .int u_sm, .int u_sl, .int u_sh])), (u_z, .inl (kI, 1000, .inl g_u_z)), (u_l, .inl (kI, 1000, .inl g_u_l)), (u_g, .inl (kI, 1000, .inl g_u_g))] H := hP
  have hK : va_K D vwCl [(kI, .int)] s := hK
  have hl : lv_has ls 4 [(0, .ref h0), (1, .int i_w), (2, .int v69), (3, .int v70)] := hl
  refine W.eq (g2 := F0 m 4 ls []) rfl ?_
  refine lv_iload_n hx hb dX6_ofDoubt_4 rfl (lv_at hl 3 rfl) ?_
  refine lv_sipush (v := 999) hx hb dX6_ofDoubt_5 (by decide) ?_
  refine lv_icmp_gt (tgt := 52) hx hb dX6_ofDoubt_8 (by decide) (fun c95 => ?_) (fun c95 => ?_)
  · have nc95 : 999 < v70.toInt := pw_lt c95 (by decide) rfl
    refine lv_iload_n hx hb dX6_ofDoubt_52 rfl (lv_at hl 2 rfl) ?_
    exact W.iret (v := v69) hx hb hr (fun t ht hW => ⟨⟨v69, (), rfl, trivial, trivial⟩, hS.F ht⟩) hS.2.2 dX6_ofDoubt_53
  · have nc95 : v70.toInt ≤ 999 := pw_nlt c95 (by decide) rfl
    refine lv_aload_n hx hb dX6_ofDoubt_11 rfl (lv_at hl 0 rfl) ?_
    refine lv_iload_n hx hb dX6_ofDoubt_12 rfl (lv_at hl 3 rfl) ?_
    have hPc := hP.sub (ws' := [(h0, .inr (6, [.ref u_z, .ref u_l, .ref u_g, .int u_at, .int u_sf, .int u_sm, .int u_sl, .int u_sh])), (u_z, .inl (kI, 1000, .inl g_u_z)), (u_l, .inl (kI, 1000, .inl g_u_l)), (u_g, .inl (kI, 1000, .inl g_u_g))]) [0, 1, 2, 3] rfl
    have hKc := hK.sub (tys' := [(kI, .int)]) [0] rfl
    refine va_calli (va_runV (As := [.int v70]) (rest := []) ⟨hx, hb, hml, hown, hts⟩ (c_X6_hasSome l D h0 v70 u_z u_l u_g u_at u_sf u_sm u_sl u_sh kI g_u_z g_u_l g_u_g) (cwV 1 hts g_X6_ofDoubt_X6_hasSome rfl rfl rfl (by decide +kernel) ⟨Nat.le_of_ble_eq_true rfl, Nat.le_of_ble_eq_true rfl⟩) ⟨fun a U g mk q => by obtain ⟨q0, qP, qK⟩ := q; exact ⟨q0, qP, va_K.moved (u := U) (U := U.calling g mk a) (Vm.Alike.refl U.vm) qK⟩, va_recv hKc hPc (ci := 6) (q0 := 0) rfl rfl, fun U hU hW => ⟨rfl, by rw [hU]; exact hPc, va_K.moved hW.alike hKc⟩⟩ rfl rfl hl.1 rfl (lv_room (Nat.le_of_ble_eq_true rfl)) dX6_ofDoubt_13 ⟨Nat.le_of_ble_eq_true rfl, Nat.le_of_ble_eq_true rfl⟩) hS (fun _ _ h => h.elim) (fun _ h => h.elim) (fun r96 u t H1 locs ht hvm hw hB hz1 hk1 hS => ?_)
    have hP := pw_keep hP (fun q hq => hk1 q hq (fun h => h))
    generalize H1 = H at hP hS ⊢
    refine W.widen (k := 0) (n := 0) (Nat.le_of_ble_eq_true rfl) (Nat.le_of_ble_eq_true rfl) ?_
    have bor96 := hw.1
    have zor96 := pw_boolI bor96
    have hfr96 := hw.2
    refine pw_join (fun (v106 : Int32) H locs ls => va_P D vwCl [(h0, .inr (6, [.ref u_z, .ref u_l, .ref u_g, .int u_at, .int u_sf, .int u_sm, .int u_sl, .int u_sh])), (u_z, .inl (kI, 1000, .inl g_u_z)), (u_l, .inl (kI, 1000, .inl g_u_l)), (u_g, .inl (kI, 1000, .inl g_u_g))] H ∧ va_S (fun _ : Nat => False) s.heap H locs ∧ lv_has ls 4 [(0, .ref h0), (1, .int i_w), (2, .int v106), (3, .int v70)]) 0 0 (fun (v106 : Int32) ls => F0 m 46 ls []) (fun v106 H locs ls hI => ?_) (fun hJ107 => ?_)
    ·
      obtain ⟨hP, hS, hl⟩ := hI
      have hP : va_P D vwCl [(h0, .inr (6, [.ref u_z, .ref u_l, .ref u_g, .int u_at, .int u_sf, .int u_sm, .int u_sl, .int u_sh])), (u_z, .inl (kI, 1000, .inl g_u_z)), (u_l, .inl (kI, 1000, .inl g_u_l)), (u_g, .inl (kI, 1000, .inl g_u_g))] H := hP
      have hK : va_K D vwCl [(kI, .int)] s := hK
      have hl : lv_has ls 4 [(0, .ref h0), (1, .int i_w), (2, .int v106), (3, .int v70)] := hl
      refine W.eq (g2 := F0 m 46 ls []) rfl ?_
      obtain ⟨x108, ex108⟩ : ∃ y : Int32, y = v70 + 1 := ⟨_, rfl⟩
      have tx108 : x108.toInt = v70.toInt + 1 := pw_addX ex108 rfl (by decide) (by omega) (by omega)
      refine lv_iinc (v := x108) (lv' := [(3, .int x108), (0, .ref h0), (1, .int i_w), (2, .int v106)]) hx hb dX6_ofDoubt_46 hl (k := 3) rfl (by rw [ex108]; rfl) (by decide) rfl (fun ls hl => ?_)
      refine lv_goto (tgt := 4) hx hb dX6_ofDoubt_49 (by decide) ?_
      have hP9 : va_P D vwCl [(h0, .inr (6, [.ref u_z, .ref u_l, .ref u_g, .int u_at, .int u_sf, .int u_sm, .int u_sl, .int u_sh])), (u_z, .inl (kI, 1000, .inl g_u_z)), (u_l, .inl (kI, 1000, .inl g_u_l)), (u_g, .inl (kI, 1000, .inl g_u_g))] H := hP.sub [0, 1, 2, 3] rfl
      have hl9 : lv_has ls 4 [(0, .ref h0), (1, .int i_w), (2, .int v106), (3, .int x108)] := lv_sub hl [1, 2, 3, 0] rfl
      refine W.widen (k := 0) (n := 0) (Nat.le_of_ble_eq_true rfl) (Nat.le_of_ble_eq_true rfl) ?_
      exact ih71 (v106, x108) _ _ _ (pw_up ex108 (by omega)) ⟨hP9, hS, hl9, (pw_upge ex108 (by omega) (by omega))⟩
    ·
      refine lv_if_eq (tgt := 46) hx hb dX6_ofDoubt_16 (by decide) (fun c109 => ?_) (fun c109 => ?_)
      · have nc109 : r96.toInt = 0 := pw_eq c109 rfl (by decide)
        have hP9 : va_P D vwCl [(h0, .inr (6, [.ref u_z, .ref u_l, .ref u_g, .int u_at, .int u_sf, .int u_sm, .int u_sl, .int u_sh])), (u_z, .inl (kI, 1000, .inl g_u_z)), (u_l, .inl (kI, 1000, .inl g_u_l)), (u_g, .inl (kI, 1000, .inl g_u_g))] H := hP.sub [0, 1, 2, 3] rfl
        have hl9 : lv_has ls 4 [(0, .ref h0), (1, .int i_w), (2, .int v69), (3, .int v70)] := lv_sub hl [0, 1, 2, 3] rfl
        refine W.widen (k := 0) (n := 0) (Nat.le_of_ble_eq_true rfl) (Nat.le_of_ble_eq_true rfl) ?_
        exact hJ107 v69 _ _ _ ⟨hP9, hS, hl9⟩
      · have nc109 : r96.toInt ≠ 0 := pw_ne c109 rfl (by decide)
        refine lv_aload_n hx hb dX6_ofDoubt_19 rfl (lv_at hl 0 rfl) ?_
        refine va_get (D := D) (ci := 6) (v := .ref u_l) (C := RX6) (T := TX6) (N := 8) hx hb hts (fun _ h => List.mem_cons_of_mem _ (List.mem_append_right _ h)) hown hK hP 0 rfl rfl 1 (by decide) (hts (.fieldLink RX6 15 "LineCites$Spans" "leasts" "[I") (List.mem_of_getElem? (i := 11) rfl)) (fun _ h9 => h9) rfl dX6_ofDoubt_20 ?_
        refine lv_iload_n hx hb dX6_ofDoubt_23 rfl (lv_at hl 3 rfl) ?_
        refine va_iald hx hb hK hP 2 0 rfl rfl (vp_in_iff.mpr ⟨by omega, by omega⟩) dX6_ofDoubt_24 ?_
        refine lv_topi (fun x110 ex110 => ?_)
        refine lv_aload_n hx hb dX6_ofDoubt_25 rfl (lv_at hl 0 rfl) ?_
        refine va_get (D := D) (ci := 6) (v := .ref u_g) (C := RX6) (T := TX6) (N := 8) hx hb hts (fun _ h => List.mem_cons_of_mem _ (List.mem_append_right _ h)) hown hK hP 0 rfl rfl 2 (by decide) (hts (.fieldLink RX6 18 "LineCites$Spans" "greatests" "[I") (List.mem_of_getElem? (i := 12) rfl)) (fun _ h9 => h9) rfl dX6_ofDoubt_26 ?_
        refine lv_iload_n hx hb dX6_ofDoubt_29 rfl (lv_at hl 3 rfl) ?_
        refine va_iald hx hb hK hP 3 0 rfl rfl (vp_in_iff.mpr ⟨by omega, by omega⟩) dX6_ofDoubt_30 ?_
        refine lv_topi (fun x111 ex111 => ?_)
        refine pw_join (fun (v113 : Int32) H locs ls => va_P D vwCl [(h0, .inr (6, [.ref u_z, .ref u_l, .ref u_g, .int u_at, .int u_sf, .int u_sm, .int u_sl, .int u_sh])), (u_z, .inl (kI, 1000, .inl g_u_z)), (u_l, .inl (kI, 1000, .inl g_u_l)), (u_g, .inl (kI, 1000, .inl g_u_g))] H ∧ va_S (fun _ : Nat => False) s.heap H locs ∧ lv_has ls 4 [(0, .ref h0), (1, .int i_w), (2, .int v69), (3, .int v70)]) 0 0 (fun (v113 : Int32) ls => F0 m 39 ls [.int v113]) (fun v113 H locs ls hI => ?_) (fun hJ114 => ?_)
        ·
          obtain ⟨hP, hS, hl⟩ := hI
          have hP : va_P D vwCl [(h0, .inr (6, [.ref u_z, .ref u_l, .ref u_g, .int u_at, .int u_sf, .int u_sm, .int u_sl, .int u_sh])), (u_z, .inl (kI, 1000, .inl g_u_z)), (u_l, .inl (kI, 1000, .inl g_u_l)), (u_g, .inl (kI, 1000, .inl g_u_g))] H := hP
          have hK : va_K D vwCl [(kI, .int)] s := hK
          have hl : lv_has ls 4 [(0, .ref h0), (1, .int i_w), (2, .int v69), (3, .int v70)] := hl
          refine W.eq (g2 := F0 m 39 ls [.int v113]) rfl ?_
          refine lv_iload_n hx hb dX6_ofDoubt_39 rfl (lv_at hl 1 rfl) ?_
          refine lv_icmp_ne (tgt := 46) hx hb dX6_ofDoubt_40 (by decide) (fun c115 => ?_) (fun c115 => ?_)
          · have nc115 : v113.toInt ≠ i_w.toInt := pw_ne c115 rfl rfl
            have mc115v113 := pw_max v113
            have mc115i_w := pw_max i_w
            have hP9 : va_P D vwCl [(h0, .inr (6, [.ref u_z, .ref u_l, .ref u_g, .int u_at, .int u_sf, .int u_sm, .int u_sl, .int u_sh])), (u_z, .inl (kI, 1000, .inl g_u_z)), (u_l, .inl (kI, 1000, .inl g_u_l)), (u_g, .inl (kI, 1000, .inl g_u_g))] H := hP.sub [0, 1, 2, 3] rfl
            have hl9 : lv_has ls 4 [(0, .ref h0), (1, .int i_w), (2, .int v69), (3, .int v70)] := lv_sub hl [0, 1, 2, 3] rfl
            refine W.widen (k := 0) (n := 0) (Nat.le_of_ble_eq_true rfl) (Nat.le_of_ble_eq_true rfl) ?_
            exact hJ107 v69 _ _ _ ⟨hP9, hS, hl9⟩
          · have nc115 : v113.toInt = i_w.toInt := pw_eq c115 rfl rfl
            have mc115v113 := pw_max v113
            have mc115i_w := pw_max i_w
            obtain ⟨x116, ex116⟩ : ∃ y : Int32, y = v69 + 1 := ⟨_, rfl⟩
            refine lv_iinc (v := x116) (lv' := [(2, .int x116), (0, .ref h0), (1, .int i_w), (3, .int v70)]) hx hb dX6_ofDoubt_43 hl (k := 2) rfl (by rw [ex116]; rfl) (by decide) rfl (fun ls hl => ?_)
            have hP9 : va_P D vwCl [(h0, .inr (6, [.ref u_z, .ref u_l, .ref u_g, .int u_at, .int u_sf, .int u_sm, .int u_sl, .int u_sh])), (u_z, .inl (kI, 1000, .inl g_u_z)), (u_l, .inl (kI, 1000, .inl g_u_l)), (u_g, .inl (kI, 1000, .inl g_u_g))] H := hP.sub [0, 1, 2, 3] rfl
            have hl9 : lv_has ls 4 [(0, .ref h0), (1, .int i_w), (2, .int x116), (3, .int v70)] := lv_sub hl [1, 2, 0, 3] rfl
            refine W.widen (k := 0) (n := 0) (Nat.le_of_ble_eq_true rfl) (Nat.le_of_ble_eq_true rfl) ?_
            exact hJ107 x116 _ _ _ ⟨hP9, hS, hl9⟩
        ·
          refine lv_icmp_ne (tgt := 38) hx hb dX6_ofDoubt_31 (by decide) (fun c117 => ?_) (fun c117 => ?_)
          · have nc117 : x110.toInt ≠ x111.toInt := pw_ne c117 rfl rfl
            have mc117x110 := pw_max x110
            have mc117x111 := pw_max x111
            refine lv_iconst (v := 2) hx hb dX6_ofDoubt_38 (by decide) ?_
            have hP9 : va_P D vwCl [(h0, .inr (6, [.ref u_z, .ref u_l, .ref u_g, .int u_at, .int u_sf, .int u_sm, .int u_sl, .int u_sh])), (u_z, .inl (kI, 1000, .inl g_u_z)), (u_l, .inl (kI, 1000, .inl g_u_l)), (u_g, .inl (kI, 1000, .inl g_u_g))] H := hP.sub [0, 1, 2, 3] rfl
            have hl9 : lv_has ls 4 [(0, .ref h0), (1, .int i_w), (2, .int v69), (3, .int v70)] := lv_sub hl [0, 1, 2, 3] rfl
            refine W.widen (k := 0) (n := 0) (Nat.le_of_ble_eq_true rfl) (Nat.le_of_ble_eq_true rfl) ?_
            exact hJ114 2 _ _ _ ⟨hP9, hS, hl9⟩
          · have nc117 : x110.toInt = x111.toInt := pw_eq c117 rfl rfl
            have mc117x110 := pw_max x110
            have mc117x111 := pw_max x111
            refine lv_iconst (v := 1) hx hb dX6_ofDoubt_34 (by decide) ?_
            refine lv_goto (tgt := 39) hx hb dX6_ofDoubt_35 (by decide) ?_
            have hP9 : va_P D vwCl [(h0, .inr (6, [.ref u_z, .ref u_l, .ref u_g, .int u_at, .int u_sf, .int u_sm, .int u_sl, .int u_sh])), (u_z, .inl (kI, 1000, .inl g_u_z)), (u_l, .inl (kI, 1000, .inl g_u_l)), (u_g, .inl (kI, 1000, .inl g_u_g))] H := hP.sub [0, 1, 2, 3] rfl
            have hl9 : lv_has ls 4 [(0, .ref h0), (1, .int i_w), (2, .int v69), (3, .int v70)] := lv_sub hl [0, 1, 2, 3] rfl
            refine W.widen (k := 0) (n := 0) (Nat.le_of_ble_eq_true rfl) (Nat.le_of_ble_eq_true rfl) ?_
            exact hJ114 1 _ _ _ ⟨hP9, hS, hl9⟩
def w_X6_spanNumbers : List Cond := .code yX6_spanNumbers cX6_spanNumbers 3 none :: ([.methodLink RX6 55 yX5_clear, .instanceMethod yX5_clear, .selects RX5 yX5_clear yX5_clear, .initialized RX5, .code yX5_clear cX5_clear 1 none, .fieldLink RX5 9 "LineCites$Span" "size" "I", .methodLink RX6 52 yX6_hasSome, .instanceMethod yX6_hasSome, .selects RX6 yX6_hasSome yX6_hasSome, .initialized RX6, .code yX6_hasSome cX6_hasSome 2 (some .boolean), .methodLink RX6 21 yX6_isPlace, .instanceMethod yX6_isPlace, .selects RX6 yX6_isPlace yX6_isPlace, .code yX6_isPlace cX6_isPlace 2 (some .boolean), .fieldLink RX6 9 "LineCites$Spans" "sizes" "[I", .fieldLink RX6 15 "LineCites$Spans" "leasts" "[I", .fieldLink RX6 18 "LineCites$Spans" "greatests" "[I", .methodLink RX6 58 yX5_put, .instanceMethod yX5_put, .selects RX5 yX5_put yX5_put, .code yX5_put cX5_put 2 none, .fieldLink RX5 15 "LineCites$Span" "least" "I", .fieldLink RX5 18 "LineCites$Span" "greatest" "I"] ++ wsX50 ++ wsX60)
set_option maxRecDepth 20000 in
theorem g_X6_spanNumbers_X5_clear : GoodIn w_X6_spanNumbers (wsV RX6 55 RX5 yX5_clear w_X5_clear) := goodIn_r _ [1, 2, 3, 4, 5, 6, 25, 26, 27] rfl (by decide +kernel)
set_option maxRecDepth 20000 in
theorem g_X6_spanNumbers_X6_hasSome : GoodIn w_X6_spanNumbers (wsV RX6 52 RX6 yX6_hasSome w_X6_hasSome) := goodIn_r _ [7, 8, 9, 10, 11, 12, 13, 14, 10, 15, 16, 17, 18, 28, 29, 30, 31, 32, 33, 34, 35] rfl (by decide +kernel)
set_option maxRecDepth 20000 in
theorem g_X6_spanNumbers_X5_put : GoodIn w_X6_spanNumbers (wsV RX6 58 RX5 yX5_put w_X5_put) := goodIn_r _ [19, 20, 21, 4, 22, 6, 23, 24, 25, 26, 27] rfl (by decide +kernel)
set_option maxHeartbeats 4000000 in
set_option maxRecDepth 100000 in
theorem c_X6_spanNumbers (l : Launch) (D : va_G) (h0 : Nat) (a_s : Nat) (u_z : Nat) (u_l : Nat) (u_g : Nat) (u_at : Int32) (u_sf : Int32) (u_sm : Int32) (u_sl : Int32) (u_sh : Int32) (kI : ClassId) (g_u_z : Nat → Int32) (g_u_l : Nat → Int32) (g_u_g : Nat → Int32) (i_s : Int32) (i_l : Int32) (i_g : Int32) (sz : Nat) : Met l yX6_spanNumbers w_X6_spanNumbers ({ frames := 2, cells := 0, slots := 0, locals := 42 }) (va_Pc [.ref h0, .ref a_s] (fun U => U.heap.size = sz ∧ va_P D vwCl [(h0, .inr (6, [.ref u_z, .ref u_l, .ref u_g, .int u_at, .int u_sf, .int u_sm, .int u_sl, .int u_sh])), (u_z, .inl (kI, 1000, .inl g_u_z)), (u_l, .inl (kI, 1000, .inl g_u_l)), (u_g, .inl (kI, 1000, .inl g_u_g)), (a_s, .inr (5, [.int i_s, .int i_l, .int i_g]))] U.heap ∧ va_K D vwCl [(kI, .int)] U ∧ va_D (fun _ => True) [(h0, .inr (6, [.ref u_z, .ref u_l, .ref u_g, .int u_at, .int u_sf, .int u_sm, .int u_sl, .int u_sh])), (u_z, .inl (kI, 1000, .inl g_u_z)), (u_l, .inl (kI, 1000, .inl g_u_l)), (u_g, .inl (kI, 1000, .inl g_u_g)), (a_s, .inr (5, [.int i_s, .int i_l, .int i_g]))])) (va_Qv (fun (_ : Unit) => True) (fun (_ : Unit) t => ∃ (n_s : Int32) (n_l : Int32) (n_g : Int32), va_P D vwCl [(h0, .inr (6, [.ref u_z, .ref u_l, .ref u_g, .int u_at, .int u_sf, .int u_sm, .int u_sl, .int u_sh])), (u_z, .inl (kI, 1000, .inl g_u_z)), (u_l, .inl (kI, 1000, .inl g_u_l)), (u_g, .inl (kI, 1000, .inl g_u_g)), (a_s, .inr (5, [.int n_s, .int n_l, .int n_g]))] t.heap ∧ va_K D vwCl [(kI, .int)] t ∧ va_D (va_A [(h0, .inr (6, [.ref u_z, .ref u_l, .ref u_g, .int u_at, .int u_sf, .int u_sm, .int u_sl, .int u_sh])), (u_z, .inl (kI, 1000, .inl g_u_z)), (u_l, .inl (kI, 1000, .inl g_u_l)), (u_g, .inl (kI, 1000, .inl g_u_g)), (a_s, .inr (5, [.int i_s, .int i_l, .int i_g]))] sz) [(h0, .inr (6, [.ref u_z, .ref u_l, .ref u_g, .int u_at, .int u_sf, .int u_sm, .int u_sl, .int u_sh])), (u_z, .inl (kI, 1000, .inl g_u_z)), (u_l, .inl (kI, 1000, .inl g_u_l)), (u_g, .inl (kI, 1000, .inl g_u_g)), (a_s, .inr (5, [.int n_s, .int n_l, .int n_g]))]) (va_A [(h0, .inr (6, [.ref u_z, .ref u_l, .ref u_g, .int u_at, .int u_sf, .int u_sm, .int u_sl, .int u_sh])), (u_z, .inl (kI, 1000, .inl g_u_z)), (u_l, .inl (kI, 1000, .inl g_u_l)), (u_g, .inl (kI, 1000, .inl g_u_g)), (a_s, .inr (5, [.int i_s, .int i_l, .int i_g]))] sz)) 0 0 (va_A [(h0, .inr (6, [.ref u_z, .ref u_l, .ref u_g, .int u_at, .int u_sf, .int u_sm, .int u_sl, .int u_sh])), (u_z, .inl (kI, 1000, .inl g_u_z)), (u_l, .inl (kI, 1000, .inl g_u_l)), (u_g, .inl (kI, 1000, .inl g_u_g)), (a_s, .inr (5, [.int i_s, .int i_l, .int i_g]))] sz) := by
  refine Met.ofW (cc := cX6_spanNumbers) (maxL := 3) (ret := none) (by decide) rfl ?_
  intro p e s m args below meth c s₁ B hml hv
  obtain ⟨rfl, hsz, hP, hK, hD0⟩ := hv
  have hx := B.exec
  have hb := B.bytes
  have hr := B.returns
  have hts := atoms_spec (ws := w_X6_spanNumbers) B.pre
  have hown : s.vm.findClass RX6 = some m.cls := findClass_of_methodNamed B.named
  have hlocks := B.notSynchronized
  subst hsz
  have hD := hD0.self (sz := s.heap.size)
  generalize hAe : va_A [(h0, .inr (6, [.ref u_z, .ref u_l, .ref u_g, .int u_at, .int u_sf, .int u_sm, .int u_sl, .int u_sh])), (u_z, .inl (kI, 1000, .inl g_u_z)), (u_l, .inl (kI, 1000, .inl g_u_l)), (u_g, .inl (kI, 1000, .inl g_u_g)), (a_s, .inr (5, [.int i_s, .int i_l, .int i_g]))] s.heap.size = A at hD ⊢
  have hA : ∀ q : Nat, s.heap.size ≤ q → A q := fun q h => by rw [← hAe]; exact Or.inr h
  have hS : va_S A s.heap s.heap [] := va_S.rf
  have hP : va_P D vwCl [(h0, .inr (6, [.ref u_z, .ref u_l, .ref u_g, .int u_at, .int u_sf, .int u_sm, .int u_sl, .int u_sh])), (u_z, .inl (kI, 1000, .inl g_u_z)), (u_l, .inl (kI, 1000, .inl g_u_l)), (u_g, .inl (kI, 1000, .inl g_u_g)), (a_s, .inr (5, [.int i_s, .int i_l, .int i_g]))] s.heap := hP
  have hl := lv_entry ([.ref h0, .ref a_s]) (n := 3) (Nat.le_of_ble_eq_true rfl)
  rw [lg_entry_eq]
  generalize (lg_sl ([.ref h0, .ref a_s]) ++ List.replicate (3 - (lg_sl ([.ref h0, .ref a_s])).length) Slot.unset).toArray = ls at hl ⊢
  have hl : lv_has ls 3 [(0, .ref h0), (1, .ref a_s)] := hl
  obtain ⟨H, hHe⟩ : ∃ H : Heap, H = s.heap := ⟨_, rfl⟩
  rw [← hHe] at hP
  have hS : va_S A s.heap H [] := by rw [hHe]; exact hS
  refine pw_heap hHe ?_
  refine lv_aload_n hx hb dX6_spanNumbers_0 rfl (lv_at hl 1 rfl) ?_
  have hPc := hP.sub (ws' := [(a_s, .inr (5, [.int i_s, .int i_l, .int i_g]))]) [4] rfl
  have hKc := hK.sub (tys' := []) [] rfl
  have hDc := hD.sub (ws' := [(a_s, .inr (5, [.int i_s, .int i_l, .int i_g]))]) [4] (by decide) rfl
  have hFc := va_free (wc := [(a_s, .inr (5, [.int i_s, .int i_l, .int i_g]))]) hD hS hA [4] rfl
  refine va_callv (va_runV (As := []) (rest := []) ⟨hx, hb, hml, hown, hts⟩ (c_X5_clear l D a_s i_s i_l i_g H.size) (cwV 0 hts g_X6_spanNumbers_X5_clear rfl rfl rfl (by decide +kernel) ⟨Nat.le_of_ble_eq_true rfl, Nat.le_of_ble_eq_true rfl⟩) ⟨fun a U g mk q => by obtain ⟨q0, q1, qP, qK, qD⟩ := q; exact ⟨q0, q1, qP, va_K.moved (u := U) (U := U.calling g mk a) (Vm.Alike.refl U.vm) qK, qD⟩, va_recv hKc hPc (ci := 5) (q0 := 0) rfl rfl, fun U hU hW => ⟨rfl, by rw [hU], by rw [hU]; exact hPc, va_K.moved hW.alike hKc, hDc.weaken (fun _ _ _ _ => trivial)⟩⟩ rfl rfl hl.1 rfl (lv_room (Nat.le_of_ble_eq_true rfl)) dX6_spanNumbers_1 ⟨Nat.le_of_ble_eq_true rfl, Nat.le_of_ble_eq_true rfl⟩) hS (fun q _ h => hFc q h) hFc (fun u t H1 locs ht hvm hw hB hz1 hk1 hS => ?_)
  obtain ⟨y2, y3, y4, hP1, hK1, hD1⟩ := hB
  rw [ht] at hP1
  have hK1 := va_K.moved hvm.symm hK1
  obtain ⟨hP, hD⟩ := va_join (wr := [(h0, .inr (6, [.ref u_z, .ref u_l, .ref u_g, .int u_at, .int u_sf, .int u_sm, .int u_sl, .int u_sh])), (u_z, .inl (kI, 1000, .inl g_u_z)), (u_l, .inl (kI, 1000, .inl g_u_l)), (u_g, .inl (kI, 1000, .inl g_u_g))]) (w1 := [(a_s, .inr (5, [.int y2, .int y3, .int y4]))]) hP hD [4] [0, 1, 2, 3] rfl rfl (by decide) (by decide) hk1 hFc hP1 hD1
  have hK := (hK.sub (tys' := [(kI, .int)]) [0] rfl).app hK1
  generalize H1 = H at hP hS ⊢
  have hP : va_P D vwCl [(h0, .inr (6, [.ref u_z, .ref u_l, .ref u_g, .int u_at, .int u_sf, .int u_sm, .int u_sl, .int u_sh])), (u_z, .inl (kI, 1000, .inl g_u_z)), (u_l, .inl (kI, 1000, .inl g_u_l)), (u_g, .inl (kI, 1000, .inl g_u_g)), (a_s, .inr (5, [.int y2, .int y3, .int y4]))] H := hP
  have hD : va_D A [(h0, .inr (6, [.ref u_z, .ref u_l, .ref u_g, .int u_at, .int u_sf, .int u_sm, .int u_sl, .int u_sh])), (u_z, .inl (kI, 1000, .inl g_u_z)), (u_l, .inl (kI, 1000, .inl g_u_l)), (u_g, .inl (kI, 1000, .inl g_u_g)), (a_s, .inr (5, [.int y2, .int y3, .int y4]))] := hD
  have hK : va_K D vwCl [(kI, .int)] s := hK
  refine W.widen (k := 0) (n := 0) (Nat.le_of_ble_eq_true rfl) (Nat.le_of_ble_eq_true rfl) ?_
  refine lv_iconst (v := 1) hx hb dX6_spanNumbers_4 (by decide) ?_
  refine lv_istore_n (lv' := [(2, .int 1), (0, .ref h0), (1, .ref a_s)]) hx hb dX6_spanNumbers_5 rfl hl (by decide) rfl (fun ls hl => ?_)
  have hl9 : lv_has ls 3 [(0, .ref h0), (1, .ref a_s), (2, .int 1)] := lv_sub hl [1, 2, 0] rfl
  refine pw_loop (fun (zz : Int32 × Int32 × Int32 × Int32) H locs ls => match zz with | (v42, v43, v44, v45) => va_P D vwCl [(h0, .inr (6, [.ref u_z, .ref u_l, .ref u_g, .int u_at, .int u_sf, .int u_sm, .int u_sl, .int u_sh])), (u_z, .inl (kI, 1000, .inl g_u_z)), (u_l, .inl (kI, 1000, .inl g_u_l)), (u_g, .inl (kI, 1000, .inl g_u_g)), (a_s, .inr (5, [.int v43, .int v44, .int v45]))] H ∧ va_D A [(h0, .inr (6, [.ref u_z, .ref u_l, .ref u_g, .int u_at, .int u_sf, .int u_sm, .int u_sl, .int u_sh])), (u_z, .inl (kI, 1000, .inl g_u_z)), (u_l, .inl (kI, 1000, .inl g_u_l)), (u_g, .inl (kI, 1000, .inl g_u_g)), (a_s, .inr (5, [.int v43, .int v44, .int v45]))] ∧ va_S A s.heap H locs ∧ lv_has ls 3 [(0, .ref h0), (1, .ref a_s), (2, .int v42)] ∧ 1 ≤ v42.toInt) (fun (zz : Int32 × Int32 × Int32 × Int32)  => match zz with | (v42, v43, v44, v45) => (2147483648 - v42.toInt).toNat) 0 0 (fun (zz : Int32 × Int32 × Int32 × Int32) ls => match zz with | (v42, v43, v44, v45) => F0 m 6 ls []) (fun zz H locs ls ih46 hI => ?_) (1, y2, y3, y4) _ _ _ ⟨hP, hD, hS, hl9, (by decide)⟩
  obtain ⟨v42, v43, v44, v45⟩ := zz
  obtain ⟨hP, hD, hS, hl, bv42⟩ := hI
  have bv42 : 1 ≤ v42.toInt := bv42
  have hP : va_P D vwCl [(h0, .inr (6, [.ref u_z, .ref u_l, .ref u_g, .int u_at, .int u_sf, .int u_sm, .int u_sl, .int u_sh])), (u_z, .inl (kI, 1000, .inl g_u_z)), (u_l, .inl (kI, 1000, .inl g_u_l)), (u_g, .inl (kI, 1000, .inl g_u_g)), (a_s, .inr (5, [.int v43, .int v44, .int v45]))] H := hP
  have hD : va_D A [(h0, .inr (6, [.ref u_z, .ref u_l, .ref u_g, .int u_at, .int u_sf, .int u_sm, .int u_sl, .int u_sh])), (u_z, .inl (kI, 1000, .inl g_u_z)), (u_l, .inl (kI, 1000, .inl g_u_l)), (u_g, .inl (kI, 1000, .inl g_u_g)), (a_s, .inr (5, [.int v43, .int v44, .int v45]))] := hD
  have hK : va_K D vwCl [(kI, .int)] s := hK
  have hl : lv_has ls 3 [(0, .ref h0), (1, .ref a_s), (2, .int v42)] := hl
  refine W.eq (g2 := F0 m 6 ls []) rfl ?_
  refine lv_iload_n hx hb dX6_spanNumbers_6 rfl (lv_at hl 2 rfl) ?_
  refine lv_sipush (v := 999) hx hb dX6_spanNumbers_7 (by decide) ?_
  refine lv_icmp_gt (tgt := 32) hx hb dX6_spanNumbers_10 (by decide) (fun c47 => ?_) (fun c47 => ?_)
  · have nc47 : 999 < v42.toInt := pw_lt c47 (by decide) rfl
    have hP9 := hP.sub (ws' := [(h0, .inr (6, [.ref u_z, .ref u_l, .ref u_g, .int u_at, .int u_sf, .int u_sm, .int u_sl, .int u_sh])), (u_z, .inl (kI, 1000, .inl g_u_z)), (u_l, .inl (kI, 1000, .inl g_u_l)), (u_g, .inl (kI, 1000, .inl g_u_g)), (a_s, .inr (5, [.int v43, .int v44, .int v45]))]) [0, 1, 2, 3, 4] rfl
    have hD9 := hD.sub (ws' := [(h0, .inr (6, [.ref u_z, .ref u_l, .ref u_g, .int u_at, .int u_sf, .int u_sm, .int u_sl, .int u_sh])), (u_z, .inl (kI, 1000, .inl g_u_z)), (u_l, .inl (kI, 1000, .inl g_u_l)), (u_g, .inl (kI, 1000, .inl g_u_g)), (a_s, .inr (5, [.int v43, .int v44, .int v45]))]) [0, 1, 2, 3, 4] (by decide) rfl
    have hK9 := hK.sub (tys' := [(kI, .int)]) [0] rfl
    refine W.widen (k := 0) (n := 0) (Nat.le_of_ble_eq_true rfl) (Nat.le_of_ble_eq_true rfl) ?_
    exact W.vret hx hb hr (fun t ht hW => ⟨⟨(), rfl, trivial, v43, v44, v45, by rw [ht]; exact hP9, va_K.moved hW.alike hK9, hD9⟩, hS.F ht⟩) hS.2.2 dX6_spanNumbers_32
  · have nc47 : v42.toInt ≤ 999 := pw_nlt c47 (by decide) rfl
    refine lv_aload_n hx hb dX6_spanNumbers_13 rfl (lv_at hl 0 rfl) ?_
    refine lv_iload_n hx hb dX6_spanNumbers_14 rfl (lv_at hl 2 rfl) ?_
    have hPc := hP.sub (ws' := [(h0, .inr (6, [.ref u_z, .ref u_l, .ref u_g, .int u_at, .int u_sf, .int u_sm, .int u_sl, .int u_sh])), (u_z, .inl (kI, 1000, .inl g_u_z)), (u_l, .inl (kI, 1000, .inl g_u_l)), (u_g, .inl (kI, 1000, .inl g_u_g))]) [0, 1, 2, 3] rfl
    have hKc := hK.sub (tys' := [(kI, .int)]) [0] rfl
    refine va_calli (va_runV (As := [.int v42]) (rest := []) ⟨hx, hb, hml, hown, hts⟩ (c_X6_hasSome l D h0 v42 u_z u_l u_g u_at u_sf u_sm u_sl u_sh kI g_u_z g_u_l g_u_g) (cwV 1 hts g_X6_spanNumbers_X6_hasSome rfl rfl rfl (by decide +kernel) ⟨Nat.le_of_ble_eq_true rfl, Nat.le_of_ble_eq_true rfl⟩) ⟨fun a U g mk q => by obtain ⟨q0, qP, qK⟩ := q; exact ⟨q0, qP, va_K.moved (u := U) (U := U.calling g mk a) (Vm.Alike.refl U.vm) qK⟩, va_recv hKc hPc (ci := 6) (q0 := 0) rfl rfl, fun U hU hW => ⟨rfl, by rw [hU]; exact hPc, va_K.moved hW.alike hKc⟩⟩ rfl rfl hl.1 rfl (lv_room (Nat.le_of_ble_eq_true rfl)) dX6_spanNumbers_15 ⟨Nat.le_of_ble_eq_true rfl, Nat.le_of_ble_eq_true rfl⟩) hS (fun _ _ h => h.elim) (fun _ h => h.elim) (fun r48 u t H1 locs ht hvm hw hB hz1 hk1 hS => ?_)
    have hP := pw_keep hP (fun q hq => hk1 q hq (fun h => h))
    generalize H1 = H at hP hS ⊢
    refine W.widen (k := 0) (n := 0) (Nat.le_of_ble_eq_true rfl) (Nat.le_of_ble_eq_true rfl) ?_
    have bor48 := hw.1
    have zor48 := pw_boolI bor48
    have hfr48 := hw.2
    refine pw_join (fun (zz : Int32 × Int32 × Int32) H locs ls => match zz with | (v54, v55, v56) => va_P D vwCl [(h0, .inr (6, [.ref u_z, .ref u_l, .ref u_g, .int u_at, .int u_sf, .int u_sm, .int u_sl, .int u_sh])), (u_z, .inl (kI, 1000, .inl g_u_z)), (u_l, .inl (kI, 1000, .inl g_u_l)), (u_g, .inl (kI, 1000, .inl g_u_g)), (a_s, .inr (5, [.int v54, .int v55, .int v56]))] H ∧ va_D A [(h0, .inr (6, [.ref u_z, .ref u_l, .ref u_g, .int u_at, .int u_sf, .int u_sm, .int u_sl, .int u_sh])), (u_z, .inl (kI, 1000, .inl g_u_z)), (u_l, .inl (kI, 1000, .inl g_u_l)), (u_g, .inl (kI, 1000, .inl g_u_g)), (a_s, .inr (5, [.int v54, .int v55, .int v56]))] ∧ va_S A s.heap H locs ∧ lv_has ls 3 [(0, .ref h0), (1, .ref a_s), (2, .int v42)]) 0 0 (fun (zz : Int32 × Int32 × Int32) ls => match zz with | (v54, v55, v56) => F0 m 26 ls []) (fun zz H locs ls hI => ?_) (fun hJ57 => ?_)
    ·
      obtain ⟨v54, v55, v56⟩ := zz
      obtain ⟨hP, hD, hS, hl⟩ := hI
      have hP : va_P D vwCl [(h0, .inr (6, [.ref u_z, .ref u_l, .ref u_g, .int u_at, .int u_sf, .int u_sm, .int u_sl, .int u_sh])), (u_z, .inl (kI, 1000, .inl g_u_z)), (u_l, .inl (kI, 1000, .inl g_u_l)), (u_g, .inl (kI, 1000, .inl g_u_g)), (a_s, .inr (5, [.int v54, .int v55, .int v56]))] H := hP
      have hD : va_D A [(h0, .inr (6, [.ref u_z, .ref u_l, .ref u_g, .int u_at, .int u_sf, .int u_sm, .int u_sl, .int u_sh])), (u_z, .inl (kI, 1000, .inl g_u_z)), (u_l, .inl (kI, 1000, .inl g_u_l)), (u_g, .inl (kI, 1000, .inl g_u_g)), (a_s, .inr (5, [.int v54, .int v55, .int v56]))] := hD
      have hK : va_K D vwCl [(kI, .int)] s := hK
      have hl : lv_has ls 3 [(0, .ref h0), (1, .ref a_s), (2, .int v42)] := hl
      refine W.eq (g2 := F0 m 26 ls []) rfl ?_
      obtain ⟨x58, ex58⟩ : ∃ y : Int32, y = v42 + 1 := ⟨_, rfl⟩
      have tx58 : x58.toInt = v42.toInt + 1 := pw_addX ex58 rfl (by decide) (by omega) (by omega)
      refine lv_iinc (v := x58) (lv' := [(2, .int x58), (0, .ref h0), (1, .ref a_s)]) hx hb dX6_spanNumbers_26 hl (k := 2) rfl (by rw [ex58]; rfl) (by decide) rfl (fun ls hl => ?_)
      refine lv_goto (tgt := 6) hx hb dX6_spanNumbers_29 (by decide) ?_
      have hP9 : va_P D vwCl [(h0, .inr (6, [.ref u_z, .ref u_l, .ref u_g, .int u_at, .int u_sf, .int u_sm, .int u_sl, .int u_sh])), (u_z, .inl (kI, 1000, .inl g_u_z)), (u_l, .inl (kI, 1000, .inl g_u_l)), (u_g, .inl (kI, 1000, .inl g_u_g)), (a_s, .inr (5, [.int v54, .int v55, .int v56]))] H := hP.sub [0, 1, 2, 3, 4] rfl
      have hD9 : va_D A [(h0, .inr (6, [.ref u_z, .ref u_l, .ref u_g, .int u_at, .int u_sf, .int u_sm, .int u_sl, .int u_sh])), (u_z, .inl (kI, 1000, .inl g_u_z)), (u_l, .inl (kI, 1000, .inl g_u_l)), (u_g, .inl (kI, 1000, .inl g_u_g)), (a_s, .inr (5, [.int v54, .int v55, .int v56]))] := hD.sub [0, 1, 2, 3, 4] (by decide) rfl
      have hl9 : lv_has ls 3 [(0, .ref h0), (1, .ref a_s), (2, .int x58)] := lv_sub hl [1, 2, 0] rfl
      refine W.widen (k := 0) (n := 0) (Nat.le_of_ble_eq_true rfl) (Nat.le_of_ble_eq_true rfl) ?_
      exact ih46 (x58, v54, v55, v56) _ _ _ (pw_up ex58 (by omega)) ⟨hP9, hD9, hS, hl9, (pw_upge ex58 (by omega) (by omega))⟩
    ·
      refine lv_if_eq (tgt := 26) hx hb dX6_spanNumbers_18 (by decide) (fun c59 => ?_) (fun c59 => ?_)
      · have nc59 : r48.toInt = 0 := pw_eq c59 rfl (by decide)
        have hP9 : va_P D vwCl [(h0, .inr (6, [.ref u_z, .ref u_l, .ref u_g, .int u_at, .int u_sf, .int u_sm, .int u_sl, .int u_sh])), (u_z, .inl (kI, 1000, .inl g_u_z)), (u_l, .inl (kI, 1000, .inl g_u_l)), (u_g, .inl (kI, 1000, .inl g_u_g)), (a_s, .inr (5, [.int v43, .int v44, .int v45]))] H := hP.sub [0, 1, 2, 3, 4] rfl
        have hD9 : va_D A [(h0, .inr (6, [.ref u_z, .ref u_l, .ref u_g, .int u_at, .int u_sf, .int u_sm, .int u_sl, .int u_sh])), (u_z, .inl (kI, 1000, .inl g_u_z)), (u_l, .inl (kI, 1000, .inl g_u_l)), (u_g, .inl (kI, 1000, .inl g_u_g)), (a_s, .inr (5, [.int v43, .int v44, .int v45]))] := hD.sub [0, 1, 2, 3, 4] (by decide) rfl
        have hl9 : lv_has ls 3 [(0, .ref h0), (1, .ref a_s), (2, .int v42)] := lv_sub hl [0, 1, 2] rfl
        refine W.widen (k := 0) (n := 0) (Nat.le_of_ble_eq_true rfl) (Nat.le_of_ble_eq_true rfl) ?_
        exact hJ57 (v43, v44, v45) _ _ _ ⟨hP9, hD9, hS, hl9⟩
      · have nc59 : r48.toInt ≠ 0 := pw_ne c59 rfl (by decide)
        refine lv_aload_n hx hb dX6_spanNumbers_21 rfl (lv_at hl 1 rfl) ?_
        refine lv_iload_n hx hb dX6_spanNumbers_22 rfl (lv_at hl 2 rfl) ?_
        have hPc := hP.sub (ws' := [(a_s, .inr (5, [.int v43, .int v44, .int v45]))]) [4] rfl
        have hKc := hK.sub (tys' := []) [] rfl
        have hDc := hD.sub (ws' := [(a_s, .inr (5, [.int v43, .int v44, .int v45]))]) [4] (by decide) rfl
        have hFc := va_free (wc := [(a_s, .inr (5, [.int v43, .int v44, .int v45]))]) hD hS hA [4] rfl
        refine va_callv (va_runV (As := [.int v42]) (rest := []) ⟨hx, hb, hml, hown, hts⟩ (c_X5_put l D a_s v42 v43 v44 v45 H.size) (cwV 1 hts g_X6_spanNumbers_X5_put rfl rfl rfl (by decide +kernel) ⟨Nat.le_of_ble_eq_true rfl, Nat.le_of_ble_eq_true rfl⟩) ⟨fun a U g mk q => by obtain ⟨q0, q1, qP, qK, qD⟩ := q; exact ⟨q0, q1, qP, va_K.moved (u := U) (U := U.calling g mk a) (Vm.Alike.refl U.vm) qK, qD⟩, va_recv hKc hPc (ci := 5) (q0 := 0) rfl rfl, fun U hU hW => ⟨rfl, by rw [hU], by rw [hU]; exact hPc, va_K.moved hW.alike hKc, hDc.weaken (fun _ _ _ _ => trivial)⟩⟩ rfl rfl hl.1 rfl (lv_room (Nat.le_of_ble_eq_true rfl)) dX6_spanNumbers_23 ⟨Nat.le_of_ble_eq_true rfl, Nat.le_of_ble_eq_true rfl⟩) hS (fun q _ h => hFc q h) hFc (fun u t H1 locs ht hvm hw hB hz1 hk1 hS => ?_)
        obtain ⟨y61, y62, y63, hP1, hK1, hD1⟩ := hB
        rw [ht] at hP1
        have hK1 := va_K.moved hvm.symm hK1
        obtain ⟨hP, hD⟩ := va_join (wr := [(h0, .inr (6, [.ref u_z, .ref u_l, .ref u_g, .int u_at, .int u_sf, .int u_sm, .int u_sl, .int u_sh])), (u_z, .inl (kI, 1000, .inl g_u_z)), (u_l, .inl (kI, 1000, .inl g_u_l)), (u_g, .inl (kI, 1000, .inl g_u_g))]) (w1 := [(a_s, .inr (5, [.int y61, .int y62, .int y63]))]) hP hD [4] [0, 1, 2, 3] rfl rfl (by decide) (by decide) hk1 hFc hP1 hD1
        have hK := (hK.sub (tys' := [(kI, .int)]) [0] rfl).app hK1
        generalize H1 = H at hP hS ⊢
        have hP : va_P D vwCl [(h0, .inr (6, [.ref u_z, .ref u_l, .ref u_g, .int u_at, .int u_sf, .int u_sm, .int u_sl, .int u_sh])), (u_z, .inl (kI, 1000, .inl g_u_z)), (u_l, .inl (kI, 1000, .inl g_u_l)), (u_g, .inl (kI, 1000, .inl g_u_g)), (a_s, .inr (5, [.int y61, .int y62, .int y63]))] H := hP
        have hD : va_D A [(h0, .inr (6, [.ref u_z, .ref u_l, .ref u_g, .int u_at, .int u_sf, .int u_sm, .int u_sl, .int u_sh])), (u_z, .inl (kI, 1000, .inl g_u_z)), (u_l, .inl (kI, 1000, .inl g_u_l)), (u_g, .inl (kI, 1000, .inl g_u_g)), (a_s, .inr (5, [.int y61, .int y62, .int y63]))] := hD
        have hK : va_K D vwCl [(kI, .int)] s := hK
        refine W.widen (k := 0) (n := 0) (Nat.le_of_ble_eq_true rfl) (Nat.le_of_ble_eq_true rfl) ?_
        have hP9 : va_P D vwCl [(h0, .inr (6, [.ref u_z, .ref u_l, .ref u_g, .int u_at, .int u_sf, .int u_sm, .int u_sl, .int u_sh])), (u_z, .inl (kI, 1000, .inl g_u_z)), (u_l, .inl (kI, 1000, .inl g_u_l)), (u_g, .inl (kI, 1000, .inl g_u_g)), (a_s, .inr (5, [.int y61, .int y62, .int y63]))] H := hP.sub [0, 1, 2, 3, 4] rfl
        have hD9 : va_D A [(h0, .inr (6, [.ref u_z, .ref u_l, .ref u_g, .int u_at, .int u_sf, .int u_sm, .int u_sl, .int u_sh])), (u_z, .inl (kI, 1000, .inl g_u_z)), (u_l, .inl (kI, 1000, .inl g_u_l)), (u_g, .inl (kI, 1000, .inl g_u_g)), (a_s, .inr (5, [.int y61, .int y62, .int y63]))] := hD.sub [0, 1, 2, 3, 4] (by decide) rfl
        have hl9 : lv_has ls 3 [(0, .ref h0), (1, .ref a_s), (2, .int v42)] := lv_sub hl [0, 1, 2] rfl
        refine W.widen (k := 0) (n := 0) (Nat.le_of_ble_eq_true rfl) (Nat.le_of_ble_eq_true rfl) ?_
        exact hJ57 (y61, y62, y63) _ _ _ ⟨hP9, hD9, hS, hl9⟩
