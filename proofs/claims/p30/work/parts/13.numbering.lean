theorem dX3_lines_0 : decode cX3_lines 0 = .ok (.aload_n 0, 1) := by decide +kernel
theorem dX3_lines_1 : decode cX3_lines 1 = .ok (.getfield 24, 3) := by decide +kernel
theorem dX3_lines_4 : decode cX3_lines 4 = .ok (.ireturn, 1) := by decide +kernel
theorem dX3_low_0 : decode cX3_low 0 = .ok (.iload_n 1, 1) := by decide +kernel
theorem dX3_low_1 : decode cX3_low 1 = .ok (.ifCond .lt 12, 3) := by decide +kernel
theorem dX3_low_4 : decode cX3_low 4 = .ok (.iload_n 1, 1) := by decide +kernel
theorem dX3_low_5 : decode cX3_low 5 = .ok (.aload_n 0, 1) := by decide +kernel
theorem dX3_low_6 : decode cX3_low 6 = .ok (.getfield 9, 3) := by decide +kernel
theorem dX3_low_9 : decode cX3_low 9 = .ok (.arraylength, 1) := by decide +kernel
theorem dX3_low_10 : decode cX3_low 10 = .ok (.if_icmp .lt 7, 3) := by decide +kernel
theorem dX3_low_13 : decode cX3_low 13 = .ok (.iconst 0, 1) := by decide +kernel
theorem dX3_low_14 : decode cX3_low 14 = .ok (.goto 9, 3) := by decide +kernel
theorem dX3_low_17 : decode cX3_low 17 = .ok (.aload_n 0, 1) := by decide +kernel
theorem dX3_low_18 : decode cX3_low 18 = .ok (.getfield 9, 3) := by decide +kernel
theorem dX3_low_21 : decode cX3_low 21 = .ok (.iload_n 1, 1) := by decide +kernel
theorem dX3_low_22 : decode cX3_low 22 = .ok (.iaload, 1) := by decide +kernel
theorem dX3_low_23 : decode cX3_low 23 = .ok (.ireturn, 1) := by decide +kernel
theorem dX3_high_0 : decode cX3_high 0 = .ok (.iload_n 1, 1) := by decide +kernel
theorem dX3_high_1 : decode cX3_high 1 = .ok (.ifCond .lt 12, 3) := by decide +kernel
theorem dX3_high_4 : decode cX3_high 4 = .ok (.iload_n 1, 1) := by decide +kernel
theorem dX3_high_5 : decode cX3_high 5 = .ok (.aload_n 0, 1) := by decide +kernel
theorem dX3_high_6 : decode cX3_high 6 = .ok (.getfield 15, 3) := by decide +kernel
theorem dX3_high_9 : decode cX3_high 9 = .ok (.arraylength, 1) := by decide +kernel
theorem dX3_high_10 : decode cX3_high 10 = .ok (.if_icmp .lt 7, 3) := by decide +kernel
theorem dX3_high_13 : decode cX3_high 13 = .ok (.iconst 0, 1) := by decide +kernel
theorem dX3_high_14 : decode cX3_high 14 = .ok (.goto 9, 3) := by decide +kernel
theorem dX3_high_17 : decode cX3_high 17 = .ok (.aload_n 0, 1) := by decide +kernel
theorem dX3_high_18 : decode cX3_high 18 = .ok (.getfield 15, 3) := by decide +kernel
theorem dX3_high_21 : decode cX3_high 21 = .ok (.iload_n 1, 1) := by decide +kernel
theorem dX3_high_22 : decode cX3_high 22 = .ok (.iaload, 1) := by decide +kernel
theorem dX3_high_23 : decode cX3_high 23 = .ok (.ireturn, 1) := by decide +kernel
theorem dX3_isNumbered_0 : decode cX3_isNumbered 0 = .ok (.aload_n 0, 1) := by decide +kernel
theorem dX3_isNumbered_1 : decode cX3_isNumbered 1 = .ok (.iload_n 1, 1) := by decide +kernel
theorem dX3_isNumbered_2 : decode cX3_isNumbered 2 = .ok (.invokevirtual 46, 3) := by decide +kernel
theorem dX3_isNumbered_5 : decode cX3_isNumbered 5 = .ok (.ifCond .le 7, 3) := by decide +kernel
theorem dX3_isNumbered_8 : decode cX3_isNumbered 8 = .ok (.iconst 1, 1) := by decide +kernel
theorem dX3_isNumbered_9 : decode cX3_isNumbered 9 = .ok (.goto 4, 3) := by decide +kernel
theorem dX3_isNumbered_12 : decode cX3_isNumbered 12 = .ok (.iconst 0, 1) := by decide +kernel
theorem dX3_isNumbered_13 : decode cX3_isNumbered 13 = .ok (.ireturn, 1) := by decide +kernel
theorem dX3_has_0 : decode cX3_has 0 = .ok (.aload_n 0, 1) := by decide +kernel
theorem dX3_has_1 : decode cX3_has 1 = .ok (.iload_n 1, 1) := by decide +kernel
theorem dX3_has_2 : decode cX3_has 2 = .ok (.invokevirtual 49, 3) := by decide +kernel
theorem dX3_has_5 : decode cX3_has 5 = .ok (.ifCond .eq 25, 3) := by decide +kernel
theorem dX3_has_8 : decode cX3_has 8 = .ok (.aload_n 0, 1) := by decide +kernel
theorem dX3_has_9 : decode cX3_has 9 = .ok (.iload_n 1, 1) := by decide +kernel
theorem dX3_has_10 : decode cX3_has 10 = .ok (.invokevirtual 46, 3) := by decide +kernel
theorem dX3_has_13 : decode cX3_has 13 = .ok (.iload_n 3, 1) := by decide +kernel
theorem dX3_has_14 : decode cX3_has 14 = .ok (.if_icmp .gt 16, 3) := by decide +kernel
theorem dX3_has_17 : decode cX3_has 17 = .ok (.aload_n 0, 1) := by decide +kernel
theorem dX3_has_18 : decode cX3_has 18 = .ok (.iload_n 1, 1) := by decide +kernel
theorem dX3_has_19 : decode cX3_has 19 = .ok (.invokevirtual 53, 3) := by decide +kernel
theorem dX3_has_22 : decode cX3_has 22 = .ok (.iload_n 2, 1) := by decide +kernel
theorem dX3_has_23 : decode cX3_has 23 = .ok (.if_icmp .lt 7, 3) := by decide +kernel
theorem dX3_has_26 : decode cX3_has 26 = .ok (.iconst 1, 1) := by decide +kernel
theorem dX3_has_27 : decode cX3_has 27 = .ok (.goto 4, 3) := by decide +kernel
theorem dX3_has_30 : decode cX3_has 30 = .ok (.iconst 0, 1) := by decide +kernel
theorem dX3_has_31 : decode cX3_has 31 = .ok (.ireturn, 1) := by decide +kernel
theorem dX3_numberedLines_0 : decode cX3_numberedLines 0 = .ok (.iconst 0, 1) := by decide +kernel
theorem dX3_numberedLines_1 : decode cX3_numberedLines 1 = .ok (.istore_n 1, 1) := by decide +kernel
theorem dX3_numberedLines_2 : decode cX3_numberedLines 2 = .ok (.iconst 0, 1) := by decide +kernel
theorem dX3_numberedLines_3 : decode cX3_numberedLines 3 = .ok (.istore_n 2, 1) := by decide +kernel
theorem dX3_numberedLines_4 : decode cX3_numberedLines 4 = .ok (.iload_n 2, 1) := by decide +kernel
theorem dX3_numberedLines_5 : decode cX3_numberedLines 5 = .ok (.aload_n 0, 1) := by decide +kernel
theorem dX3_numberedLines_6 : decode cX3_numberedLines 6 = .ok (.getfield 24, 3) := by decide +kernel
theorem dX3_numberedLines_9 : decode cX3_numberedLines 9 = .ok (.if_icmp .ge 20, 3) := by decide +kernel
theorem dX3_numberedLines_12 : decode cX3_numberedLines 12 = .ok (.aload_n 0, 1) := by decide +kernel
theorem dX3_numberedLines_13 : decode cX3_numberedLines 13 = .ok (.iload_n 2, 1) := by decide +kernel
theorem dX3_numberedLines_14 : decode cX3_numberedLines 14 = .ok (.invokevirtual 49, 3) := by decide +kernel
theorem dX3_numberedLines_17 : decode cX3_numberedLines 17 = .ok (.ifCond .eq 6, 3) := by decide +kernel
theorem dX3_numberedLines_20 : decode cX3_numberedLines 20 = .ok (.iinc 1 1, 3) := by decide +kernel
theorem dX3_numberedLines_23 : decode cX3_numberedLines 23 = .ok (.iinc 2 1, 3) := by decide +kernel
theorem dX3_numberedLines_26 : decode cX3_numberedLines 26 = .ok (.goto (-22), 3) := by decide +kernel
theorem dX3_numberedLines_29 : decode cX3_numberedLines 29 = .ok (.iload_n 1, 1) := by decide +kernel
theorem dX3_numberedLines_30 : decode cX3_numberedLines 30 = .ok (.ireturn, 1) := by decide +kernel
theorem dX3_lineAmong_0 : decode cX3_lineAmong 0 = .ok (.iconst (-1), 1) := by decide +kernel
theorem dX3_lineAmong_1 : decode cX3_lineAmong 1 = .ok (.istore_n 3, 1) := by decide +kernel
theorem dX3_lineAmong_2 : decode cX3_lineAmong 2 = .ok (.iconst 0, 1) := by decide +kernel
theorem dX3_lineAmong_3 : decode cX3_lineAmong 3 = .ok (.istore 4, 2) := by decide +kernel
theorem dX3_lineAmong_5 : decode cX3_lineAmong 5 = .ok (.iload 4, 2) := by decide +kernel
theorem dX3_lineAmong_7 : decode cX3_lineAmong 7 = .ok (.aload_n 0, 1) := by decide +kernel
theorem dX3_lineAmong_8 : decode cX3_lineAmong 8 = .ok (.getfield 24, 3) := by decide +kernel
theorem dX3_lineAmong_11 : decode cX3_lineAmong 11 = .ok (.if_icmp .ge 34, 3) := by decide +kernel
theorem dX3_lineAmong_14 : decode cX3_lineAmong 14 = .ok (.aload_n 0, 1) := by decide +kernel
theorem dX3_lineAmong_15 : decode cX3_lineAmong 15 = .ok (.iload 4, 2) := by decide +kernel
theorem dX3_lineAmong_17 : decode cX3_lineAmong 17 = .ok (.iload_n 1, 1) := by decide +kernel
theorem dX3_lineAmong_18 : decode cX3_lineAmong 18 = .ok (.iload_n 1, 1) := by decide +kernel
theorem dX3_lineAmong_19 : decode cX3_lineAmong 19 = .ok (.invokevirtual 61, 3) := by decide +kernel
theorem dX3_lineAmong_22 : decode cX3_lineAmong 22 = .ok (.ifCond .ne 6, 3) := by decide +kernel
theorem dX3_lineAmong_25 : decode cX3_lineAmong 25 = .ok (.goto 14, 3) := by decide +kernel
theorem dX3_lineAmong_28 : decode cX3_lineAmong 28 = .ok (.iinc 3 1, 3) := by decide +kernel
theorem dX3_lineAmong_31 : decode cX3_lineAmong 31 = .ok (.iload_n 3, 1) := by decide +kernel
theorem dX3_lineAmong_32 : decode cX3_lineAmong 32 = .ok (.iload_n 2, 1) := by decide +kernel
theorem dX3_lineAmong_33 : decode cX3_lineAmong 33 = .ok (.if_icmp .ne 6, 3) := by decide +kernel
theorem dX3_lineAmong_36 : decode cX3_lineAmong 36 = .ok (.iload 4, 2) := by decide +kernel
theorem dX3_lineAmong_38 : decode cX3_lineAmong 38 = .ok (.ireturn, 1) := by decide +kernel
theorem dX3_lineAmong_39 : decode cX3_lineAmong 39 = .ok (.iinc 4 1, 3) := by decide +kernel
theorem dX3_lineAmong_42 : decode cX3_lineAmong 42 = .ok (.goto (-37), 3) := by decide +kernel
theorem dX3_lineAmong_45 : decode cX3_lineAmong 45 = .ok (.ldc 69, 2) := by decide +kernel
theorem dX3_lineAmong_47 : decode cX3_lineAmong 47 = .ok (.ireturn, 1) := by decide +kernel
theorem dX3_beginsBareRow_0 : decode cX3_beginsBareRow 0 = .ok (.aload_n 0, 1) := by decide +kernel
theorem dX3_beginsBareRow_1 : decode cX3_beginsBareRow 1 = .ok (.iload_n 1, 1) := by decide +kernel
theorem dX3_beginsBareRow_2 : decode cX3_beginsBareRow 2 = .ok (.invokevirtual 49, 3) := by decide +kernel
theorem dX3_beginsBareRow_5 : decode cX3_beginsBareRow 5 = .ok (.ifCond .ne 21, 3) := by decide +kernel
theorem dX3_beginsBareRow_8 : decode cX3_beginsBareRow 8 = .ok (.iload_n 1, 1) := by decide +kernel
theorem dX3_beginsBareRow_9 : decode cX3_beginsBareRow 9 = .ok (.ifCond .eq 13, 3) := by decide +kernel
theorem dX3_beginsBareRow_12 : decode cX3_beginsBareRow 12 = .ok (.aload_n 0, 1) := by decide +kernel
theorem dX3_beginsBareRow_13 : decode cX3_beginsBareRow 13 = .ok (.iload_n 1, 1) := by decide +kernel
theorem dX3_beginsBareRow_14 : decode cX3_beginsBareRow 14 = .ok (.iconst 1, 1) := by decide +kernel
theorem dX3_beginsBareRow_15 : decode cX3_beginsBareRow 15 = .ok (.isub, 1) := by decide +kernel
theorem dX3_beginsBareRow_16 : decode cX3_beginsBareRow 16 = .ok (.invokevirtual 49, 3) := by decide +kernel
theorem dX3_beginsBareRow_19 : decode cX3_beginsBareRow 19 = .ok (.ifCond .eq 7, 3) := by decide +kernel
theorem dX3_beginsBareRow_22 : decode cX3_beginsBareRow 22 = .ok (.iconst 1, 1) := by decide +kernel
theorem dX3_beginsBareRow_23 : decode cX3_beginsBareRow 23 = .ok (.goto 4, 3) := by decide +kernel
theorem dX3_beginsBareRow_26 : decode cX3_beginsBareRow 26 = .ok (.iconst 0, 1) := by decide +kernel
theorem dX3_beginsBareRow_27 : decode cX3_beginsBareRow 27 = .ok (.ireturn, 1) := by decide +kernel
theorem dX3_bareLinesFrom_0 : decode cX3_bareLinesFrom 0 = .ok (.iload_n 1, 1) := by decide +kernel
theorem dX3_bareLinesFrom_1 : decode cX3_bareLinesFrom 1 = .ok (.istore_n 2, 1) := by decide +kernel
theorem dX3_bareLinesFrom_2 : decode cX3_bareLinesFrom 2 = .ok (.iload_n 2, 1) := by decide +kernel
theorem dX3_bareLinesFrom_3 : decode cX3_bareLinesFrom 3 = .ok (.aload_n 0, 1) := by decide +kernel
theorem dX3_bareLinesFrom_4 : decode cX3_bareLinesFrom 4 = .ok (.getfield 24, 3) := by decide +kernel
theorem dX3_bareLinesFrom_7 : decode cX3_bareLinesFrom 7 = .ok (.if_icmp .ge 17, 3) := by decide +kernel
theorem dX3_bareLinesFrom_10 : decode cX3_bareLinesFrom 10 = .ok (.aload_n 0, 1) := by decide +kernel
theorem dX3_bareLinesFrom_11 : decode cX3_bareLinesFrom 11 = .ok (.iload_n 2, 1) := by decide +kernel
theorem dX3_bareLinesFrom_12 : decode cX3_bareLinesFrom 12 = .ok (.invokevirtual 49, 3) := by decide +kernel
theorem dX3_bareLinesFrom_15 : decode cX3_bareLinesFrom 15 = .ok (.ifCond .ne 9, 3) := by decide +kernel
theorem dX3_bareLinesFrom_18 : decode cX3_bareLinesFrom 18 = .ok (.iinc 2 1, 3) := by decide +kernel
theorem dX3_bareLinesFrom_21 : decode cX3_bareLinesFrom 21 = .ok (.goto (-19), 3) := by decide +kernel
theorem dX3_bareLinesFrom_24 : decode cX3_bareLinesFrom 24 = .ok (.iload_n 2, 1) := by decide +kernel
theorem dX3_bareLinesFrom_25 : decode cX3_bareLinesFrom 25 = .ok (.iload_n 1, 1) := by decide +kernel
theorem dX3_bareLinesFrom_26 : decode cX3_bareLinesFrom 26 = .ok (.isub, 1) := by decide +kernel
theorem dX3_bareLinesFrom_27 : decode cX3_bareLinesFrom 27 = .ok (.ireturn, 1) := by decide +kernel
theorem dX3_spanLines_0 : decode cX3_spanLines 0 = .ok (.aload_n 3, 1) := by decide +kernel
theorem dX3_spanLines_1 : decode cX3_spanLines 1 = .ok (.invokevirtual 56, 3) := by decide +kernel
theorem dX3_spanLines_4 : decode cX3_spanLines 4 = .ok (.iconst 0, 1) := by decide +kernel
theorem dX3_spanLines_5 : decode cX3_spanLines 5 = .ok (.istore 4, 2) := by decide +kernel
theorem dX3_spanLines_7 : decode cX3_spanLines 7 = .ok (.iload 4, 2) := by decide +kernel
theorem dX3_spanLines_9 : decode cX3_spanLines 9 = .ok (.aload_n 0, 1) := by decide +kernel
theorem dX3_spanLines_10 : decode cX3_spanLines 10 = .ok (.getfield 24, 3) := by decide +kernel
theorem dX3_spanLines_13 : decode cX3_spanLines 13 = .ok (.if_icmp .ge 26, 3) := by decide +kernel
theorem dX3_spanLines_16 : decode cX3_spanLines 16 = .ok (.aload_n 0, 1) := by decide +kernel
theorem dX3_spanLines_17 : decode cX3_spanLines 17 = .ok (.iload 4, 2) := by decide +kernel
theorem dX3_spanLines_19 : decode cX3_spanLines 19 = .ok (.iload_n 1, 1) := by decide +kernel
theorem dX3_spanLines_20 : decode cX3_spanLines 20 = .ok (.iload_n 2, 1) := by decide +kernel
theorem dX3_spanLines_21 : decode cX3_spanLines 21 = .ok (.invokevirtual 61, 3) := by decide +kernel
theorem dX3_spanLines_24 : decode cX3_spanLines 24 = .ok (.ifCond .eq 9, 3) := by decide +kernel
theorem dX3_spanLines_27 : decode cX3_spanLines 27 = .ok (.aload_n 3, 1) := by decide +kernel
theorem dX3_spanLines_28 : decode cX3_spanLines 28 = .ok (.iload 4, 2) := by decide +kernel
theorem dX3_spanLines_30 : decode cX3_spanLines 30 = .ok (.invokevirtual 65, 3) := by decide +kernel
theorem dX3_spanLines_33 : decode cX3_spanLines 33 = .ok (.iinc 4 1, 3) := by decide +kernel
theorem dX3_spanLines_36 : decode cX3_spanLines 36 = .ok (.goto (-29), 3) := by decide +kernel
theorem dX3_spanLines_39 : decode cX3_spanLines 39 = .ok (.return_, 1) := by decide +kernel
theorem dX3_fillStretch_0 : decode cX3_fillStretch 0 = .ok (.iconst 0, 1) := by decide +kernel
theorem dX3_fillStretch_1 : decode cX3_fillStretch 1 = .ok (.istore 5, 2) := by decide +kernel
theorem dX3_fillStretch_3 : decode cX3_fillStretch 3 = .ok (.iload 5, 2) := by decide +kernel
theorem dX3_fillStretch_5 : decode cX3_fillStretch 5 = .ok (.iload_n 3, 1) := by decide +kernel
theorem dX3_fillStretch_6 : decode cX3_fillStretch 6 = .ok (.if_icmp .ge 73, 3) := by decide +kernel
theorem dX3_fillStretch_9 : decode cX3_fillStretch 9 = .ok (.iload_n 2, 1) := by decide +kernel
theorem dX3_fillStretch_10 : decode cX3_fillStretch 10 = .ok (.iload 5, 2) := by decide +kernel
theorem dX3_fillStretch_12 : decode cX3_fillStretch 12 = .ok (.iadd, 1) := by decide +kernel
theorem dX3_fillStretch_13 : decode cX3_fillStretch 13 = .ok (.istore 6, 2) := by decide +kernel
theorem dX3_fillStretch_15 : decode cX3_fillStretch 15 = .ok (.iload 6, 2) := by decide +kernel
theorem dX3_fillStretch_17 : decode cX3_fillStretch 17 = .ok (.ifCond .lt 23, 3) := by decide +kernel
theorem dX3_fillStretch_20 : decode cX3_fillStretch 20 = .ok (.iload 6, 2) := by decide +kernel
theorem dX3_fillStretch_22 : decode cX3_fillStretch 22 = .ok (.aload_n 0, 1) := by decide +kernel
theorem dX3_fillStretch_23 : decode cX3_fillStretch 23 = .ok (.getfield 9, 3) := by decide +kernel
theorem dX3_fillStretch_26 : decode cX3_fillStretch 26 = .ok (.arraylength, 1) := by decide +kernel
theorem dX3_fillStretch_27 : decode cX3_fillStretch 27 = .ok (.if_icmp .ge 13, 3) := by decide +kernel
theorem dX3_fillStretch_30 : decode cX3_fillStretch 30 = .ok (.iload 6, 2) := by decide +kernel
theorem dX3_fillStretch_32 : decode cX3_fillStretch 32 = .ok (.aload_n 0, 1) := by decide +kernel
theorem dX3_fillStretch_33 : decode cX3_fillStretch 33 = .ok (.getfield 15, 3) := by decide +kernel
theorem dX3_fillStretch_36 : decode cX3_fillStretch 36 = .ok (.arraylength, 1) := by decide +kernel
theorem dX3_fillStretch_37 : decode cX3_fillStretch 37 = .ok (.if_icmp .lt 4, 3) := by decide +kernel
theorem dX3_fillStretch_40 : decode cX3_fillStretch 40 = .ok (.return_, 1) := by decide +kernel
theorem dX3_fillStretch_41 : decode cX3_fillStretch 41 = .ok (.aload_n 0, 1) := by decide +kernel
theorem dX3_fillStretch_42 : decode cX3_fillStretch 42 = .ok (.getfield 9, 3) := by decide +kernel
theorem dX3_fillStretch_45 : decode cX3_fillStretch 45 = .ok (.iload 6, 2) := by decide +kernel
theorem dX3_fillStretch_47 : decode cX3_fillStretch 47 = .ok (.iload_n 1, 1) := by decide +kernel
theorem dX3_fillStretch_48 : decode cX3_fillStretch 48 = .ok (.iload_n 3, 1) := by decide +kernel
theorem dX3_fillStretch_49 : decode cX3_fillStretch 49 = .ok (.iload 4, 2) := by decide +kernel
theorem dX3_fillStretch_51 : decode cX3_fillStretch 51 = .ok (.iload 5, 2) := by decide +kernel
theorem dX3_fillStretch_53 : decode cX3_fillStretch 53 = .ok (.invokestatic 39, 3) := by decide +kernel
theorem dX3_fillStretch_56 : decode cX3_fillStretch 56 = .ok (.iastore, 1) := by decide +kernel
theorem dX3_fillStretch_57 : decode cX3_fillStretch 57 = .ok (.aload_n 0, 1) := by decide +kernel
theorem dX3_fillStretch_58 : decode cX3_fillStretch 58 = .ok (.getfield 15, 3) := by decide +kernel
theorem dX3_fillStretch_61 : decode cX3_fillStretch 61 = .ok (.iload 6, 2) := by decide +kernel
theorem dX3_fillStretch_63 : decode cX3_fillStretch 63 = .ok (.iload_n 1, 1) := by decide +kernel
theorem dX3_fillStretch_64 : decode cX3_fillStretch 64 = .ok (.iload_n 3, 1) := by decide +kernel
theorem dX3_fillStretch_65 : decode cX3_fillStretch 65 = .ok (.iload 4, 2) := by decide +kernel
theorem dX3_fillStretch_67 : decode cX3_fillStretch 67 = .ok (.iload 5, 2) := by decide +kernel
theorem dX3_fillStretch_69 : decode cX3_fillStretch 69 = .ok (.invokestatic 43, 3) := by decide +kernel
theorem dX3_fillStretch_72 : decode cX3_fillStretch 72 = .ok (.iastore, 1) := by decide +kernel
theorem dX3_fillStretch_73 : decode cX3_fillStretch 73 = .ok (.iinc 5 1, 3) := by decide +kernel
theorem dX3_fillStretch_76 : decode cX3_fillStretch 76 = .ok (.goto (-73), 3) := by decide +kernel
theorem dX3_fillStretch_79 : decode cX3_fillStretch 79 = .ok (.return_, 1) := by decide +kernel
theorem dX3_fill_0 : decode cX3_fill 0 = .ok (.aload_n 0, 1) := by decide +kernel
theorem dX3_fill_1 : decode cX3_fill 1 = .ok (.aload_n 1, 1) := by decide +kernel
theorem dX3_fill_2 : decode cX3_fill 2 = .ok (.invokevirtual 18, 3) := by decide +kernel
theorem dX3_fill_5 : decode cX3_fill 5 = .ok (.putfield 24, 3) := by decide +kernel
theorem dX3_fill_8 : decode cX3_fill 8 = .ok (.iconst 0, 1) := by decide +kernel
theorem dX3_fill_9 : decode cX3_fill 9 = .ok (.istore_n 3, 1) := by decide +kernel
theorem dX3_fill_10 : decode cX3_fill 10 = .ok (.iload_n 3, 1) := by decide +kernel
theorem dX3_fill_11 : decode cX3_fill 11 = .ok (.aload_n 0, 1) := by decide +kernel
theorem dX3_fill_12 : decode cX3_fill 12 = .ok (.getfield 9, 3) := by decide +kernel
theorem dX3_fill_15 : decode cX3_fill 15 = .ok (.arraylength, 1) := by decide +kernel
theorem dX3_fill_16 : decode cX3_fill 16 = .ok (.if_icmp .ge 32, 3) := by decide +kernel
theorem dX3_fill_19 : decode cX3_fill 19 = .ok (.iload_n 3, 1) := by decide +kernel
theorem dX3_fill_20 : decode cX3_fill 20 = .ok (.aload_n 0, 1) := by decide +kernel
theorem dX3_fill_21 : decode cX3_fill 21 = .ok (.getfield 15, 3) := by decide +kernel
theorem dX3_fill_24 : decode cX3_fill 24 = .ok (.arraylength, 1) := by decide +kernel
theorem dX3_fill_25 : decode cX3_fill 25 = .ok (.if_icmp .ge 23, 3) := by decide +kernel
theorem dX3_fill_28 : decode cX3_fill 28 = .ok (.aload_n 0, 1) := by decide +kernel
theorem dX3_fill_29 : decode cX3_fill 29 = .ok (.getfield 9, 3) := by decide +kernel
theorem dX3_fill_32 : decode cX3_fill 32 = .ok (.iload_n 3, 1) := by decide +kernel
theorem dX3_fill_33 : decode cX3_fill 33 = .ok (.iconst 0, 1) := by decide +kernel
theorem dX3_fill_34 : decode cX3_fill 34 = .ok (.iastore, 1) := by decide +kernel
theorem dX3_fill_35 : decode cX3_fill 35 = .ok (.aload_n 0, 1) := by decide +kernel
theorem dX3_fill_36 : decode cX3_fill 36 = .ok (.getfield 15, 3) := by decide +kernel
theorem dX3_fill_39 : decode cX3_fill 39 = .ok (.iload_n 3, 1) := by decide +kernel
theorem dX3_fill_40 : decode cX3_fill 40 = .ok (.iconst 0, 1) := by decide +kernel
theorem dX3_fill_41 : decode cX3_fill 41 = .ok (.iastore, 1) := by decide +kernel
theorem dX3_fill_42 : decode cX3_fill 42 = .ok (.iinc 3 1, 3) := by decide +kernel
theorem dX3_fill_45 : decode cX3_fill 45 = .ok (.goto (-35), 3) := by decide +kernel
theorem dX3_fill_48 : decode cX3_fill 48 = .ok (.iconst 0, 1) := by decide +kernel
theorem dX3_fill_49 : decode cX3_fill 49 = .ok (.istore_n 3, 1) := by decide +kernel
theorem dX3_fill_50 : decode cX3_fill 50 = .ok (.iload_n 3, 1) := by decide +kernel
theorem dX3_fill_51 : decode cX3_fill 51 = .ok (.aload_n 1, 1) := by decide +kernel
theorem dX3_fill_52 : decode cX3_fill 52 = .ok (.iload_n 2, 1) := by decide +kernel
theorem dX3_fill_53 : decode cX3_fill 53 = .ok (.invokevirtual 27, 3) := by decide +kernel
theorem dX3_fill_56 : decode cX3_fill 56 = .ok (.if_icmp .ge 41, 3) := by decide +kernel
theorem dX3_fill_59 : decode cX3_fill 59 = .ok (.aload_n 0, 1) := by decide +kernel
theorem dX3_fill_60 : decode cX3_fill 60 = .ok (.aload_n 1, 1) := by decide +kernel
theorem dX3_fill_61 : decode cX3_fill 61 = .ok (.iload_n 2, 1) := by decide +kernel
theorem dX3_fill_62 : decode cX3_fill 62 = .ok (.iload_n 3, 1) := by decide +kernel
theorem dX3_fill_63 : decode cX3_fill 63 = .ok (.iconst 0, 1) := by decide +kernel
theorem dX3_fill_64 : decode cX3_fill 64 = .ok (.invokevirtual 31, 3) := by decide +kernel
theorem dX3_fill_67 : decode cX3_fill 67 = .ok (.aload_n 1, 1) := by decide +kernel
theorem dX3_fill_68 : decode cX3_fill 68 = .ok (.iload_n 2, 1) := by decide +kernel
theorem dX3_fill_69 : decode cX3_fill 69 = .ok (.iload_n 3, 1) := by decide +kernel
theorem dX3_fill_70 : decode cX3_fill 70 = .ok (.iconst 1, 1) := by decide +kernel
theorem dX3_fill_71 : decode cX3_fill 71 = .ok (.invokevirtual 31, 3) := by decide +kernel
theorem dX3_fill_74 : decode cX3_fill 74 = .ok (.aload_n 1, 1) := by decide +kernel
theorem dX3_fill_75 : decode cX3_fill 75 = .ok (.iload_n 2, 1) := by decide +kernel
theorem dX3_fill_76 : decode cX3_fill 76 = .ok (.iload_n 3, 1) := by decide +kernel
theorem dX3_fill_77 : decode cX3_fill 77 = .ok (.iconst 2, 1) := by decide +kernel
theorem dX3_fill_78 : decode cX3_fill 78 = .ok (.invokevirtual 31, 3) := by decide +kernel
theorem dX3_fill_81 : decode cX3_fill 81 = .ok (.aload_n 1, 1) := by decide +kernel
theorem dX3_fill_82 : decode cX3_fill 82 = .ok (.iload_n 2, 1) := by decide +kernel
theorem dX3_fill_83 : decode cX3_fill 83 = .ok (.iload_n 3, 1) := by decide +kernel
theorem dX3_fill_84 : decode cX3_fill 84 = .ok (.iconst 3, 1) := by decide +kernel
theorem dX3_fill_85 : decode cX3_fill 85 = .ok (.invokevirtual 31, 3) := by decide +kernel
theorem dX3_fill_88 : decode cX3_fill 88 = .ok (.invokevirtual 35, 3) := by decide +kernel
theorem dX3_fill_91 : decode cX3_fill 91 = .ok (.iinc 3 1, 3) := by decide +kernel
theorem dX3_fill_94 : decode cX3_fill 94 = .ok (.goto (-44), 3) := by decide +kernel
theorem dX3_fill_97 : decode cX3_fill 97 = .ok (.return_, 1) := by decide +kernel
def w_X3_lines : List Cond := .code yX3_lines cX3_lines 1 (some .int) :: ([.fieldLink RX3 24 "LineCites$Numbering" "lines" "I"] ++ wsX30)
set_option maxHeartbeats 4000000 in
set_option maxRecDepth 100000 in
theorem c_X3_lines (l : Launch) (D : va_G) (h0 : Nat) (c_lo : Nat) (c_hi : Nat) (c_li : Int32) : Met l yX3_lines w_X3_lines ({ frames := 0, cells := 0, slots := 0, locals := 0 }) (va_Pc [.ref h0] (fun U => va_P D vwCl [(h0, .inr (3, [.ref c_lo, .ref c_hi, .int c_li]))] U.heap ∧ va_K D vwCl [] U)) (va_Qi (fun (r : Int32) (_ : Unit) => r = c_li) (fun _ _ => True) (fun _ => False)) 0 0 (fun _ => False) := by
  refine Met.ofW (cc := cX3_lines) (maxL := 1) (ret := (some .int)) (by decide) rfl ?_
  intro p e s m args below meth c s₁ B hml hv
  obtain ⟨rfl, hP, hK⟩ := hv
  have hx := B.exec
  have hb := B.bytes
  have hr := B.returns
  have hts := atoms_spec (ws := w_X3_lines) B.pre
  have hown : s.vm.findClass RX3 = some m.cls := findClass_of_methodNamed B.named
  have hlocks := B.notSynchronized
  have hS : va_S (fun _ : Nat => False) s.heap s.heap [] := va_S.rf
  have hP : va_P D vwCl [(h0, .inr (3, [.ref c_lo, .ref c_hi, .int c_li]))] s.heap := hP
  have hl := lv_entry ([.ref h0]) (n := 1) (Nat.le_of_ble_eq_true rfl)
  rw [lg_entry_eq]
  generalize (lg_sl ([.ref h0]) ++ List.replicate (1 - (lg_sl ([.ref h0])).length) Slot.unset).toArray = ls at hl ⊢
  have hl : lv_has ls 1 [(0, .ref h0)] := hl
  obtain ⟨H, hHe⟩ : ∃ H : Heap, H = s.heap := ⟨_, rfl⟩
  rw [← hHe] at hP
  have hS : va_S (fun _ : Nat => False) s.heap H [] := by rw [hHe]; exact hS
  refine pw_heap hHe ?_
  refine lv_aload_n hx hb dX3_lines_0 rfl (lv_at hl 0 rfl) ?_
  refine va_get (D := D) (ci := 3) (v := .int c_li) (C := RX3) (T := TX3) (N := 3) hx hb hts (fun _ h => List.mem_cons_of_mem _ (List.mem_append_right _ h)) hown hK hP 0 rfl rfl 2 (by decide) (hts (.fieldLink RX3 24 "LineCites$Numbering" "lines" "I") (List.mem_of_getElem? (i := 1) rfl)) (fun _ h9 => h9) rfl dX3_lines_1 ?_
  exact W.iret (v := c_li) hx hb hr (fun t ht hW => ⟨⟨c_li, (), rfl, rfl, trivial⟩, hS.F ht⟩) hS.2.2 dX3_lines_4
def w_X3_low : List Cond := .code yX3_low cX3_low 2 (some .int) :: ([.fieldLink RX3 9 "LineCites$Numbering" "lows" "[I"] ++ wsX30)
set_option maxHeartbeats 4000000 in
set_option maxRecDepth 100000 in
theorem c_X3_low (l : Launch) (D : va_G) (h0 : Nat) (i_n : Int32) (c_lo : Nat) (c_hi : Nat) (c_li : Int32) (kI : ClassId) (g_c_lo : Nat → Int32) (hg_c_lo : bN g_c_lo) : Met l yX3_low w_X3_low ({ frames := 0, cells := 0, slots := 0, locals := 0 }) (va_Pc [.ref h0, .int i_n] (fun U => va_P D vwCl [(h0, .inr (3, [.ref c_lo, .ref c_hi, .int c_li])), (c_lo, .inl (kI, 200, .inl g_c_lo))] U.heap ∧ va_K D vwCl [(kI, .int)] U)) (va_Qi (fun (r : Int32) (_ : Unit) => 0 ≤ r.toInt ∧ r.toInt ≤ 3000) (fun _ _ => True) (fun _ => False)) 0 0 (fun _ => False) := by
  refine Met.ofW (cc := cX3_low) (maxL := 2) (ret := (some .int)) (by decide) rfl ?_
  intro p e s m args below meth c s₁ B hml hv
  obtain ⟨rfl, hP, hK⟩ := hv
  have hx := B.exec
  have hb := B.bytes
  have hr := B.returns
  have hts := atoms_spec (ws := w_X3_low) B.pre
  have hown : s.vm.findClass RX3 = some m.cls := findClass_of_methodNamed B.named
  have hlocks := B.notSynchronized
  have hS : va_S (fun _ : Nat => False) s.heap s.heap [] := va_S.rf
  have hP : va_P D vwCl [(h0, .inr (3, [.ref c_lo, .ref c_hi, .int c_li])), (c_lo, .inl (kI, 200, .inl g_c_lo))] s.heap := hP
  have hl := lv_entry ([.ref h0, .int i_n]) (n := 2) (Nat.le_of_ble_eq_true rfl)
  rw [lg_entry_eq]
  generalize (lg_sl ([.ref h0, .int i_n]) ++ List.replicate (2 - (lg_sl ([.ref h0, .int i_n])).length) Slot.unset).toArray = ls at hl ⊢
  have hl : lv_has ls 2 [(0, .ref h0), (1, .int i_n)] := hl
  obtain ⟨H, hHe⟩ : ∃ H : Heap, H = s.heap := ⟨_, rfl⟩
  rw [← hHe] at hP
  have hS : va_S (fun _ : Nat => False) s.heap H [] := by rw [hHe]; exact hS
  refine pw_heap hHe ?_
  refine lv_iload_n hx hb dX3_low_0 rfl (lv_at hl 1 rfl) ?_
  refine lv_if_lt (tgt := 13) hx hb dX3_low_1 (by decide) (fun c1 => ?_) (fun c1 => ?_)
  · have nc1 : i_n.toInt < 0 := pw_lt c1 rfl (by decide)
    refine lv_iconst (v := 0) hx hb dX3_low_13 (by decide) ?_
    refine lv_goto (tgt := 23) hx hb dX3_low_14 (by decide) ?_
    exact W.iret (v := 0) hx hb hr (fun t ht hW => ⟨⟨0, (), rfl, (by have hv : (0 : Int32).toInt = 0 := (by decide); omega), trivial⟩, hS.F ht⟩) hS.2.2 dX3_low_23
  · have nc1 : 0 ≤ i_n.toInt := pw_nlt c1 rfl (by decide)
    refine lv_iload_n hx hb dX3_low_4 rfl (lv_at hl 1 rfl) ?_
    refine lv_aload_n hx hb dX3_low_5 rfl (lv_at hl 0 rfl) ?_
    refine va_get (D := D) (ci := 3) (v := .ref c_lo) (C := RX3) (T := TX3) (N := 3) hx hb hts (fun _ h => List.mem_cons_of_mem _ (List.mem_append_right _ h)) hown hK hP 0 rfl rfl 0 (by decide) (hts (.fieldLink RX3 9 "LineCites$Numbering" "lows" "[I") (List.mem_of_getElem? (i := 1) rfl)) (fun _ h9 => h9) rfl dX3_low_6 ?_
    refine va_alen (v := 200) hx hb hK hP 1 0 rfl rfl rfl dX3_low_9 ?_
    refine lv_icmp_lt (tgt := 17) hx hb dX3_low_10 (by decide) (fun c2 => ?_) (fun c2 => ?_)
    · have nc2 : i_n.toInt < 200 := pw_lt c2 rfl (by decide)
      refine lv_aload_n hx hb dX3_low_17 rfl (lv_at hl 0 rfl) ?_
      refine va_get (D := D) (ci := 3) (v := .ref c_lo) (C := RX3) (T := TX3) (N := 3) hx hb hts (fun _ h => List.mem_cons_of_mem _ (List.mem_append_right _ h)) hown hK hP 0 rfl rfl 0 (by decide) (hts (.fieldLink RX3 9 "LineCites$Numbering" "lows" "[I") (List.mem_of_getElem? (i := 1) rfl)) (fun _ h9 => h9) rfl dX3_low_18 ?_
      refine lv_iload_n hx hb dX3_low_21 rfl (lv_at hl 1 rfl) ?_
      refine va_iald hx hb hK hP 1 0 rfl rfl (vp_in_iff.mpr ⟨by omega, by omega⟩) dX3_low_22 ?_
      refine lv_topi (fun x3 ex3 => ?_)
      have nx3 : 0 ≤ x3.toInt ∧ x3.toInt ≤ 3000 := bN_at hg_c_lo ex3
      exact W.iret (v := x3) hx hb hr (fun t ht hW => ⟨⟨x3, (), rfl, (by omega), trivial⟩, hS.F ht⟩) hS.2.2 dX3_low_23
    · have nc2 : 200 ≤ i_n.toInt := pw_nlt c2 rfl (by decide)
      refine lv_iconst (v := 0) hx hb dX3_low_13 (by decide) ?_
      refine lv_goto (tgt := 23) hx hb dX3_low_14 (by decide) ?_
      exact W.iret (v := 0) hx hb hr (fun t ht hW => ⟨⟨0, (), rfl, (by have hv : (0 : Int32).toInt = 0 := (by decide); omega), trivial⟩, hS.F ht⟩) hS.2.2 dX3_low_23
def w_X3_high : List Cond := .code yX3_high cX3_high 2 (some .int) :: ([.fieldLink RX3 15 "LineCites$Numbering" "highs" "[I"] ++ wsX30)
set_option maxHeartbeats 4000000 in
set_option maxRecDepth 100000 in
theorem c_X3_high (l : Launch) (D : va_G) (h0 : Nat) (i_n : Int32) (c_lo : Nat) (c_hi : Nat) (c_li : Int32) (kI : ClassId) (g_c_hi : Nat → Int32) (hg_c_hi : bN g_c_hi) : Met l yX3_high w_X3_high ({ frames := 0, cells := 0, slots := 0, locals := 0 }) (va_Pc [.ref h0, .int i_n] (fun U => va_P D vwCl [(h0, .inr (3, [.ref c_lo, .ref c_hi, .int c_li])), (c_hi, .inl (kI, 200, .inl g_c_hi))] U.heap ∧ va_K D vwCl [(kI, .int)] U)) (va_Qi (fun (r : Int32) (_ : Unit) => 0 ≤ r.toInt ∧ r.toInt ≤ 3000) (fun _ _ => True) (fun _ => False)) 0 0 (fun _ => False) := by
  refine Met.ofW (cc := cX3_high) (maxL := 2) (ret := (some .int)) (by decide) rfl ?_
  intro p e s m args below meth c s₁ B hml hv
  obtain ⟨rfl, hP, hK⟩ := hv
  have hx := B.exec
  have hb := B.bytes
  have hr := B.returns
  have hts := atoms_spec (ws := w_X3_high) B.pre
  have hown : s.vm.findClass RX3 = some m.cls := findClass_of_methodNamed B.named
  have hlocks := B.notSynchronized
  have hS : va_S (fun _ : Nat => False) s.heap s.heap [] := va_S.rf
  have hP : va_P D vwCl [(h0, .inr (3, [.ref c_lo, .ref c_hi, .int c_li])), (c_hi, .inl (kI, 200, .inl g_c_hi))] s.heap := hP
  have hl := lv_entry ([.ref h0, .int i_n]) (n := 2) (Nat.le_of_ble_eq_true rfl)
  rw [lg_entry_eq]
  generalize (lg_sl ([.ref h0, .int i_n]) ++ List.replicate (2 - (lg_sl ([.ref h0, .int i_n])).length) Slot.unset).toArray = ls at hl ⊢
  have hl : lv_has ls 2 [(0, .ref h0), (1, .int i_n)] := hl
  obtain ⟨H, hHe⟩ : ∃ H : Heap, H = s.heap := ⟨_, rfl⟩
  rw [← hHe] at hP
  have hS : va_S (fun _ : Nat => False) s.heap H [] := by rw [hHe]; exact hS
  refine pw_heap hHe ?_
  refine lv_iload_n hx hb dX3_high_0 rfl (lv_at hl 1 rfl) ?_
  refine lv_if_lt (tgt := 13) hx hb dX3_high_1 (by decide) (fun c1 => ?_) (fun c1 => ?_)
  · have nc1 : i_n.toInt < 0 := pw_lt c1 rfl (by decide)
    refine lv_iconst (v := 0) hx hb dX3_high_13 (by decide) ?_
    refine lv_goto (tgt := 23) hx hb dX3_high_14 (by decide) ?_
    exact W.iret (v := 0) hx hb hr (fun t ht hW => ⟨⟨0, (), rfl, (by have hv : (0 : Int32).toInt = 0 := (by decide); omega), trivial⟩, hS.F ht⟩) hS.2.2 dX3_high_23
  · have nc1 : 0 ≤ i_n.toInt := pw_nlt c1 rfl (by decide)
    refine lv_iload_n hx hb dX3_high_4 rfl (lv_at hl 1 rfl) ?_
    refine lv_aload_n hx hb dX3_high_5 rfl (lv_at hl 0 rfl) ?_
    refine va_get (D := D) (ci := 3) (v := .ref c_hi) (C := RX3) (T := TX3) (N := 3) hx hb hts (fun _ h => List.mem_cons_of_mem _ (List.mem_append_right _ h)) hown hK hP 0 rfl rfl 1 (by decide) (hts (.fieldLink RX3 15 "LineCites$Numbering" "highs" "[I") (List.mem_of_getElem? (i := 1) rfl)) (fun _ h9 => h9) rfl dX3_high_6 ?_
    refine va_alen (v := 200) hx hb hK hP 1 0 rfl rfl rfl dX3_high_9 ?_
    refine lv_icmp_lt (tgt := 17) hx hb dX3_high_10 (by decide) (fun c2 => ?_) (fun c2 => ?_)
    · have nc2 : i_n.toInt < 200 := pw_lt c2 rfl (by decide)
      refine lv_aload_n hx hb dX3_high_17 rfl (lv_at hl 0 rfl) ?_
      refine va_get (D := D) (ci := 3) (v := .ref c_hi) (C := RX3) (T := TX3) (N := 3) hx hb hts (fun _ h => List.mem_cons_of_mem _ (List.mem_append_right _ h)) hown hK hP 0 rfl rfl 1 (by decide) (hts (.fieldLink RX3 15 "LineCites$Numbering" "highs" "[I") (List.mem_of_getElem? (i := 1) rfl)) (fun _ h9 => h9) rfl dX3_high_18 ?_
      refine lv_iload_n hx hb dX3_high_21 rfl (lv_at hl 1 rfl) ?_
      refine va_iald hx hb hK hP 1 0 rfl rfl (vp_in_iff.mpr ⟨by omega, by omega⟩) dX3_high_22 ?_
      refine lv_topi (fun x3 ex3 => ?_)
      have nx3 : 0 ≤ x3.toInt ∧ x3.toInt ≤ 3000 := bN_at hg_c_hi ex3
      exact W.iret (v := x3) hx hb hr (fun t ht hW => ⟨⟨x3, (), rfl, (by omega), trivial⟩, hS.F ht⟩) hS.2.2 dX3_high_23
    · have nc2 : 200 ≤ i_n.toInt := pw_nlt c2 rfl (by decide)
      refine lv_iconst (v := 0) hx hb dX3_high_13 (by decide) ?_
      refine lv_goto (tgt := 23) hx hb dX3_high_14 (by decide) ?_
      exact W.iret (v := 0) hx hb hr (fun t ht hW => ⟨⟨0, (), rfl, (by have hv : (0 : Int32).toInt = 0 := (by decide); omega), trivial⟩, hS.F ht⟩) hS.2.2 dX3_high_23
def w_X3_isNumbered : List Cond := .code yX3_isNumbered cX3_isNumbered 2 (some .boolean) :: ([.methodLink RX3 46 yX3_low, .instanceMethod yX3_low, .selects RX3 yX3_low yX3_low, .initialized RX3, .code yX3_low cX3_low 2 (some .int), .fieldLink RX3 9 "LineCites$Numbering" "lows" "[I"] ++ wsX30)
set_option maxRecDepth 20000 in
theorem g_X3_isNumbered_X3_low : GoodIn w_X3_isNumbered (wsV RX3 46 RX3 yX3_low w_X3_low) := goodIn_r _ [1, 2, 3, 4, 5, 6, 7, 8, 9] rfl (by decide +kernel)
set_option maxHeartbeats 4000000 in
set_option maxRecDepth 100000 in
theorem c_X3_isNumbered (l : Launch) (D : va_G) (h0 : Nat) (i_n : Int32) (c_lo : Nat) (c_hi : Nat) (c_li : Int32) (kI : ClassId) (g_c_lo : Nat → Int32) (hg_c_lo : bN g_c_lo) : Met l yX3_isNumbered w_X3_isNumbered ({ frames := 1, cells := 0, slots := 0, locals := 21 }) (va_Pc [.ref h0, .int i_n] (fun U => va_P D vwCl [(h0, .inr (3, [.ref c_lo, .ref c_hi, .int c_li])), (c_lo, .inl (kI, 200, .inl g_c_lo))] U.heap ∧ va_K D vwCl [(kI, .int)] U)) (va_Qi (fun (r : Int32) (_ : Unit) => (r = 0 ∨ r = 1) ∧ True) (fun _ _ => True) (fun _ => False)) 0 0 (fun _ => False) := by
  refine Met.ofW (cc := cX3_isNumbered) (maxL := 2) (ret := (some .boolean)) (by decide) rfl ?_
  intro p e s m args below meth c s₁ B hml hv
  obtain ⟨rfl, hP, hK⟩ := hv
  have hx := B.exec
  have hb := B.bytes
  have hr := B.returns
  have hts := atoms_spec (ws := w_X3_isNumbered) B.pre
  have hown : s.vm.findClass RX3 = some m.cls := findClass_of_methodNamed B.named
  have hlocks := B.notSynchronized
  have hS : va_S (fun _ : Nat => False) s.heap s.heap [] := va_S.rf
  have hP : va_P D vwCl [(h0, .inr (3, [.ref c_lo, .ref c_hi, .int c_li])), (c_lo, .inl (kI, 200, .inl g_c_lo))] s.heap := hP
  have hl := lv_entry ([.ref h0, .int i_n]) (n := 2) (Nat.le_of_ble_eq_true rfl)
  rw [lg_entry_eq]
  generalize (lg_sl ([.ref h0, .int i_n]) ++ List.replicate (2 - (lg_sl ([.ref h0, .int i_n])).length) Slot.unset).toArray = ls at hl ⊢
  have hl : lv_has ls 2 [(0, .ref h0), (1, .int i_n)] := hl
  obtain ⟨H, hHe⟩ : ∃ H : Heap, H = s.heap := ⟨_, rfl⟩
  rw [← hHe] at hP
  have hS : va_S (fun _ : Nat => False) s.heap H [] := by rw [hHe]; exact hS
  refine pw_heap hHe ?_
  refine lv_aload_n hx hb dX3_isNumbered_0 rfl (lv_at hl 0 rfl) ?_
  refine lv_iload_n hx hb dX3_isNumbered_1 rfl (lv_at hl 1 rfl) ?_
  have hPc := hP.sub (ws' := [(h0, .inr (3, [.ref c_lo, .ref c_hi, .int c_li])), (c_lo, .inl (kI, 200, .inl g_c_lo))]) [0, 1] rfl
  have hKc := hK.sub (tys' := [(kI, .int)]) [0] rfl
  refine va_calli (va_runV (As := [.int i_n]) (rest := []) ⟨hx, hb, hml, hown, hts⟩ (c_X3_low l D h0 i_n c_lo c_hi c_li kI g_c_lo hg_c_lo) (cwV 1 hts g_X3_isNumbered_X3_low rfl rfl rfl (by decide +kernel) ⟨Nat.le_of_ble_eq_true rfl, Nat.le_of_ble_eq_true rfl⟩) ⟨fun a U g mk q => by obtain ⟨q0, qP, qK⟩ := q; exact ⟨q0, qP, va_K.moved (u := U) (U := U.calling g mk a) (Vm.Alike.refl U.vm) qK⟩, va_recv hKc hPc (ci := 3) (q0 := 0) rfl rfl, fun U hU hW => ⟨rfl, by rw [hU]; exact hPc, va_K.moved hW.alike hKc⟩⟩ rfl rfl hl.1 rfl (lv_room (Nat.le_of_ble_eq_true rfl)) dX3_isNumbered_2 ⟨Nat.le_of_ble_eq_true rfl, Nat.le_of_ble_eq_true rfl⟩) hS (fun _ _ h => h.elim) (fun _ h => h.elim) (fun r1 u t H1 locs ht hvm hw hB hz1 hk1 hS => ?_)
  have hP := pw_keep hP (fun q hq => hk1 q hq (fun h => h))
  generalize H1 = H at hP hS ⊢
  refine W.widen (k := 0) (n := 0) (Nat.le_of_ble_eq_true rfl) (Nat.le_of_ble_eq_true rfl) ?_
  have hfr1 := hw
  refine lv_if_le (tgt := 12) hx hb dX3_isNumbered_5 (by decide) (fun c2 => ?_) (fun c2 => ?_)
  · have nc2 : r1.toInt ≤ 0 := pw_le c2 rfl (by decide)
    refine lv_iconst (v := 0) hx hb dX3_isNumbered_12 (by decide) ?_
    exact W.zret (v := 0) (ty := .boolean) hx hb hr rfl (fun t ht hW => ⟨⟨0, (), rfl, ⟨Or.inl rfl, trivial⟩, trivial⟩, hS.F ht⟩) hS.2.2 dX3_isNumbered_13
  · have nc2 : 0 < r1.toInt := pw_nle c2 rfl (by decide)
    refine lv_iconst (v := 1) hx hb dX3_isNumbered_8 (by decide) ?_
    refine lv_goto (tgt := 13) hx hb dX3_isNumbered_9 (by decide) ?_
    exact W.zret (v := 1) (ty := .boolean) hx hb hr rfl (fun t ht hW => ⟨⟨1, (), rfl, ⟨Or.inr rfl, trivial⟩, trivial⟩, hS.F ht⟩) hS.2.2 dX3_isNumbered_13
def w_X3_has : List Cond := .code yX3_has cX3_has 4 (some .boolean) :: ([.methodLink RX3 49 yX3_isNumbered, .instanceMethod yX3_isNumbered, .selects RX3 yX3_isNumbered yX3_isNumbered, .initialized RX3, .code yX3_isNumbered cX3_isNumbered 2 (some .boolean), .methodLink RX3 46 yX3_low, .instanceMethod yX3_low, .selects RX3 yX3_low yX3_low, .code yX3_low cX3_low 2 (some .int), .fieldLink RX3 9 "LineCites$Numbering" "lows" "[I", .methodLink RX3 53 yX3_high, .instanceMethod yX3_high, .selects RX3 yX3_high yX3_high, .code yX3_high cX3_high 2 (some .int), .fieldLink RX3 15 "LineCites$Numbering" "highs" "[I"] ++ wsX30)
set_option maxRecDepth 20000 in
theorem g_X3_has_X3_isNumbered : GoodIn w_X3_has (wsV RX3 49 RX3 yX3_isNumbered w_X3_isNumbered) := goodIn_r _ [1, 2, 3, 4, 5, 6, 7, 8, 4, 9, 10, 16, 17, 18] rfl (by decide +kernel)
set_option maxRecDepth 20000 in
theorem g_X3_has_X3_low : GoodIn w_X3_has (wsV RX3 46 RX3 yX3_low w_X3_low) := goodIn_r _ [6, 7, 8, 4, 9, 10, 16, 17, 18] rfl (by decide +kernel)
set_option maxRecDepth 20000 in
theorem g_X3_has_X3_high : GoodIn w_X3_has (wsV RX3 53 RX3 yX3_high w_X3_high) := goodIn_r _ [11, 12, 13, 4, 14, 15, 16, 17, 18] rfl (by decide +kernel)
set_option maxHeartbeats 4000000 in
set_option maxRecDepth 100000 in
theorem c_X3_has (l : Launch) (D : va_G) (h0 : Nat) (i_n : Int32) (i_a : Int32) (i_b : Int32) (c_lo : Nat) (c_hi : Nat) (c_li : Int32) (kI : ClassId) (g_c_lo : Nat → Int32) (g_c_hi : Nat → Int32) (hg_c_lo : bN g_c_lo) (hg_c_hi : bN g_c_hi) : Met l yX3_has w_X3_has ({ frames := 2, cells := 0, slots := 0, locals := 42 }) (va_Pc [.ref h0, .int i_n, .int i_a, .int i_b] (fun U => va_P D vwCl [(h0, .inr (3, [.ref c_lo, .ref c_hi, .int c_li])), (c_lo, .inl (kI, 200, .inl g_c_lo)), (c_hi, .inl (kI, 200, .inl g_c_hi))] U.heap ∧ va_K D vwCl [(kI, .int)] U)) (va_Qi (fun (r : Int32) (_ : Unit) => (r = 0 ∨ r = 1) ∧ True) (fun _ _ => True) (fun _ => False)) 0 0 (fun _ => False) := by
  refine Met.ofW (cc := cX3_has) (maxL := 4) (ret := (some .boolean)) (by decide) rfl ?_
  intro p e s m args below meth c s₁ B hml hv
  obtain ⟨rfl, hP, hK⟩ := hv
  have hx := B.exec
  have hb := B.bytes
  have hr := B.returns
  have hts := atoms_spec (ws := w_X3_has) B.pre
  have hown : s.vm.findClass RX3 = some m.cls := findClass_of_methodNamed B.named
  have hlocks := B.notSynchronized
  have hS : va_S (fun _ : Nat => False) s.heap s.heap [] := va_S.rf
  have hP : va_P D vwCl [(h0, .inr (3, [.ref c_lo, .ref c_hi, .int c_li])), (c_lo, .inl (kI, 200, .inl g_c_lo)), (c_hi, .inl (kI, 200, .inl g_c_hi))] s.heap := hP
  have hl := lv_entry ([.ref h0, .int i_n, .int i_a, .int i_b]) (n := 4) (Nat.le_of_ble_eq_true rfl)
  rw [lg_entry_eq]
  generalize (lg_sl ([.ref h0, .int i_n, .int i_a, .int i_b]) ++ List.replicate (4 - (lg_sl ([.ref h0, .int i_n, .int i_a, .int i_b])).length) Slot.unset).toArray = ls at hl ⊢
  have hl : lv_has ls 4 [(0, .ref h0), (1, .int i_n), (2, .int i_a), (3, .int i_b)] := hl
  obtain ⟨H, hHe⟩ : ∃ H : Heap, H = s.heap := ⟨_, rfl⟩
  rw [← hHe] at hP
  have hS : va_S (fun _ : Nat => False) s.heap H [] := by rw [hHe]; exact hS
  refine pw_heap hHe ?_
  refine lv_aload_n hx hb dX3_has_0 rfl (lv_at hl 0 rfl) ?_
  refine lv_iload_n hx hb dX3_has_1 rfl (lv_at hl 1 rfl) ?_
  have hPc := hP.sub (ws' := [(h0, .inr (3, [.ref c_lo, .ref c_hi, .int c_li])), (c_lo, .inl (kI, 200, .inl g_c_lo))]) [0, 1] rfl
  have hKc := hK.sub (tys' := [(kI, .int)]) [0] rfl
  refine va_calli (va_runV (As := [.int i_n]) (rest := []) ⟨hx, hb, hml, hown, hts⟩ (c_X3_isNumbered l D h0 i_n c_lo c_hi c_li kI g_c_lo hg_c_lo) (cwV 1 hts g_X3_has_X3_isNumbered rfl rfl rfl (by decide +kernel) ⟨Nat.le_of_ble_eq_true rfl, Nat.le_of_ble_eq_true rfl⟩) ⟨fun a U g mk q => by obtain ⟨q0, qP, qK⟩ := q; exact ⟨q0, qP, va_K.moved (u := U) (U := U.calling g mk a) (Vm.Alike.refl U.vm) qK⟩, va_recv hKc hPc (ci := 3) (q0 := 0) rfl rfl, fun U hU hW => ⟨rfl, by rw [hU]; exact hPc, va_K.moved hW.alike hKc⟩⟩ rfl rfl hl.1 rfl (lv_room (Nat.le_of_ble_eq_true rfl)) dX3_has_2 ⟨Nat.le_of_ble_eq_true rfl, Nat.le_of_ble_eq_true rfl⟩) hS (fun _ _ h => h.elim) (fun _ h => h.elim) (fun r1 u t H1 locs ht hvm hw hB hz1 hk1 hS => ?_)
  have hP := pw_keep hP (fun q hq => hk1 q hq (fun h => h))
  generalize H1 = H at hP hS ⊢
  refine W.widen (k := 0) (n := 0) (Nat.le_of_ble_eq_true rfl) (Nat.le_of_ble_eq_true rfl) ?_
  have bor1 := hw.1
  have zor1 := pw_boolI bor1
  refine lv_if_eq (tgt := 30) hx hb dX3_has_5 (by decide) (fun c2 => ?_) (fun c2 => ?_)
  · have nc2 : r1.toInt = 0 := pw_eq c2 rfl (by decide)
    refine lv_iconst (v := 0) hx hb dX3_has_30 (by decide) ?_
    exact W.zret (v := 0) (ty := .boolean) hx hb hr rfl (fun t ht hW => ⟨⟨0, (), rfl, ⟨Or.inl rfl, trivial⟩, trivial⟩, hS.F ht⟩) hS.2.2 dX3_has_31
  · have nc2 : r1.toInt ≠ 0 := pw_ne c2 rfl (by decide)
    refine lv_aload_n hx hb dX3_has_8 rfl (lv_at hl 0 rfl) ?_
    refine lv_iload_n hx hb dX3_has_9 rfl (lv_at hl 1 rfl) ?_
    have hPc := hP.sub (ws' := [(h0, .inr (3, [.ref c_lo, .ref c_hi, .int c_li])), (c_lo, .inl (kI, 200, .inl g_c_lo))]) [0, 1] rfl
    have hKc := hK.sub (tys' := [(kI, .int)]) [0] rfl
    refine va_calli (va_runV (As := [.int i_n]) (rest := []) ⟨hx, hb, hml, hown, hts⟩ (c_X3_low l D h0 i_n c_lo c_hi c_li kI g_c_lo hg_c_lo) (cwV 1 hts g_X3_has_X3_low rfl rfl rfl (by decide +kernel) ⟨Nat.le_of_ble_eq_true rfl, Nat.le_of_ble_eq_true rfl⟩) ⟨fun a U g mk q => by obtain ⟨q0, qP, qK⟩ := q; exact ⟨q0, qP, va_K.moved (u := U) (U := U.calling g mk a) (Vm.Alike.refl U.vm) qK⟩, va_recv hKc hPc (ci := 3) (q0 := 0) rfl rfl, fun U hU hW => ⟨rfl, by rw [hU]; exact hPc, va_K.moved hW.alike hKc⟩⟩ rfl rfl hl.1 rfl (lv_room (Nat.le_of_ble_eq_true rfl)) dX3_has_10 ⟨Nat.le_of_ble_eq_true rfl, Nat.le_of_ble_eq_true rfl⟩) hS (fun _ _ h => h.elim) (fun _ h => h.elim) (fun r3 u t H1 locs ht hvm hw hB hz1 hk1 hS => ?_)
    have hP := pw_keep hP (fun q hq => hk1 q hq (fun h => h))
    generalize H1 = H at hP hS ⊢
    refine W.widen (k := 0) (n := 0) (Nat.le_of_ble_eq_true rfl) (Nat.le_of_ble_eq_true rfl) ?_
    have hfr3 := hw
    refine lv_iload_n hx hb dX3_has_13 rfl (lv_at hl 3 rfl) ?_
    refine lv_icmp_gt (tgt := 30) hx hb dX3_has_14 (by decide) (fun c4 => ?_) (fun c4 => ?_)
    · have nc4 : i_b.toInt < r3.toInt := pw_lt c4 rfl rfl
      have mc4r3 := pw_max r3
      have mc4i_b := pw_max i_b
      refine lv_iconst (v := 0) hx hb dX3_has_30 (by decide) ?_
      exact W.zret (v := 0) (ty := .boolean) hx hb hr rfl (fun t ht hW => ⟨⟨0, (), rfl, ⟨Or.inl rfl, trivial⟩, trivial⟩, hS.F ht⟩) hS.2.2 dX3_has_31
    · have nc4 : r3.toInt ≤ i_b.toInt := pw_nlt c4 rfl rfl
      have mc4r3 := pw_max r3
      have mc4i_b := pw_max i_b
      refine lv_aload_n hx hb dX3_has_17 rfl (lv_at hl 0 rfl) ?_
      refine lv_iload_n hx hb dX3_has_18 rfl (lv_at hl 1 rfl) ?_
      have hPc := hP.sub (ws' := [(h0, .inr (3, [.ref c_lo, .ref c_hi, .int c_li])), (c_hi, .inl (kI, 200, .inl g_c_hi))]) [0, 2] rfl
      have hKc := hK.sub (tys' := [(kI, .int)]) [0] rfl
      refine va_calli (va_runV (As := [.int i_n]) (rest := []) ⟨hx, hb, hml, hown, hts⟩ (c_X3_high l D h0 i_n c_lo c_hi c_li kI g_c_hi hg_c_hi) (cwV 1 hts g_X3_has_X3_high rfl rfl rfl (by decide +kernel) ⟨Nat.le_of_ble_eq_true rfl, Nat.le_of_ble_eq_true rfl⟩) ⟨fun a U g mk q => by obtain ⟨q0, qP, qK⟩ := q; exact ⟨q0, qP, va_K.moved (u := U) (U := U.calling g mk a) (Vm.Alike.refl U.vm) qK⟩, va_recv hKc hPc (ci := 3) (q0 := 0) rfl rfl, fun U hU hW => ⟨rfl, by rw [hU]; exact hPc, va_K.moved hW.alike hKc⟩⟩ rfl rfl hl.1 rfl (lv_room (Nat.le_of_ble_eq_true rfl)) dX3_has_19 ⟨Nat.le_of_ble_eq_true rfl, Nat.le_of_ble_eq_true rfl⟩) hS (fun _ _ h => h.elim) (fun _ h => h.elim) (fun r5 u t H1 locs ht hvm hw hB hz1 hk1 hS => ?_)
      have hP := pw_keep hP (fun q hq => hk1 q hq (fun h => h))
      generalize H1 = H at hP hS ⊢
      refine W.widen (k := 0) (n := 0) (Nat.le_of_ble_eq_true rfl) (Nat.le_of_ble_eq_true rfl) ?_
      have hfr5 := hw
      refine lv_iload_n hx hb dX3_has_22 rfl (lv_at hl 2 rfl) ?_
      refine lv_icmp_lt (tgt := 30) hx hb dX3_has_23 (by decide) (fun c6 => ?_) (fun c6 => ?_)
      · have nc6 : r5.toInt < i_a.toInt := pw_lt c6 rfl rfl
        have mc6r5 := pw_max r5
        have mc6i_a := pw_max i_a
        refine lv_iconst (v := 0) hx hb dX3_has_30 (by decide) ?_
        exact W.zret (v := 0) (ty := .boolean) hx hb hr rfl (fun t ht hW => ⟨⟨0, (), rfl, ⟨Or.inl rfl, trivial⟩, trivial⟩, hS.F ht⟩) hS.2.2 dX3_has_31
      · have nc6 : i_a.toInt ≤ r5.toInt := pw_nlt c6 rfl rfl
        have mc6r5 := pw_max r5
        have mc6i_a := pw_max i_a
        refine lv_iconst (v := 1) hx hb dX3_has_26 (by decide) ?_
        refine lv_goto (tgt := 31) hx hb dX3_has_27 (by decide) ?_
        exact W.zret (v := 1) (ty := .boolean) hx hb hr rfl (fun t ht hW => ⟨⟨1, (), rfl, ⟨Or.inr rfl, trivial⟩, trivial⟩, hS.F ht⟩) hS.2.2 dX3_has_31
def w_X3_numberedLines : List Cond := .code yX3_numberedLines cX3_numberedLines 3 (some .int) :: ([.fieldLink RX3 24 "LineCites$Numbering" "lines" "I", .methodLink RX3 49 yX3_isNumbered, .instanceMethod yX3_isNumbered, .selects RX3 yX3_isNumbered yX3_isNumbered, .initialized RX3, .code yX3_isNumbered cX3_isNumbered 2 (some .boolean), .methodLink RX3 46 yX3_low, .instanceMethod yX3_low, .selects RX3 yX3_low yX3_low, .code yX3_low cX3_low 2 (some .int), .fieldLink RX3 9 "LineCites$Numbering" "lows" "[I"] ++ wsX30)
set_option maxRecDepth 20000 in
theorem g_X3_numberedLines_X3_isNumbered : GoodIn w_X3_numberedLines (wsV RX3 49 RX3 yX3_isNumbered w_X3_isNumbered) := goodIn_r _ [2, 3, 4, 5, 6, 7, 8, 9, 5, 10, 11, 12, 13, 14] rfl (by decide +kernel)
set_option maxHeartbeats 4000000 in
set_option maxRecDepth 100000 in
theorem c_X3_numberedLines (l : Launch) (D : va_G) (h0 : Nat) (c_lo : Nat) (c_hi : Nat) (c_li : Int32) (kI : ClassId) (g_c_lo : Nat → Int32) (hg_c_lo : bN g_c_lo) : Met l yX3_numberedLines w_X3_numberedLines ({ frames := 2, cells := 0, slots := 0, locals := 42 }) (va_Pc [.ref h0] (fun U => va_P D vwCl [(h0, .inr (3, [.ref c_lo, .ref c_hi, .int c_li])), (c_lo, .inl (kI, 200, .inl g_c_lo))] U.heap ∧ va_K D vwCl [(kI, .int)] U)) (va_Qi (fun (r : Int32) (_ : Unit) => True) (fun _ _ => True) (fun _ => False)) 0 0 (fun _ => False) := by
  refine Met.ofW (cc := cX3_numberedLines) (maxL := 3) (ret := (some .int)) (by decide) rfl ?_
  intro p e s m args below meth c s₁ B hml hv
  obtain ⟨rfl, hP, hK⟩ := hv
  have hx := B.exec
  have hb := B.bytes
  have hr := B.returns
  have hts := atoms_spec (ws := w_X3_numberedLines) B.pre
  have hown : s.vm.findClass RX3 = some m.cls := findClass_of_methodNamed B.named
  have hlocks := B.notSynchronized
  have hS : va_S (fun _ : Nat => False) s.heap s.heap [] := va_S.rf
  have hP : va_P D vwCl [(h0, .inr (3, [.ref c_lo, .ref c_hi, .int c_li])), (c_lo, .inl (kI, 200, .inl g_c_lo))] s.heap := hP
  have hl := lv_entry ([.ref h0]) (n := 3) (Nat.le_of_ble_eq_true rfl)
  rw [lg_entry_eq]
  generalize (lg_sl ([.ref h0]) ++ List.replicate (3 - (lg_sl ([.ref h0])).length) Slot.unset).toArray = ls at hl ⊢
  have hl : lv_has ls 3 [(0, .ref h0)] := hl
  obtain ⟨H, hHe⟩ : ∃ H : Heap, H = s.heap := ⟨_, rfl⟩
  rw [← hHe] at hP
  have hS : va_S (fun _ : Nat => False) s.heap H [] := by rw [hHe]; exact hS
  refine pw_heap hHe ?_
  refine lv_iconst (v := 0) hx hb dX3_numberedLines_0 (by decide) ?_
  refine lv_istore_n (lv' := [(1, .int 0), (0, .ref h0)]) hx hb dX3_numberedLines_1 rfl hl (by decide) rfl (fun ls hl => ?_)
  refine lv_iconst (v := 0) hx hb dX3_numberedLines_2 (by decide) ?_
  refine lv_istore_n (lv' := [(2, .int 0), (1, .int 0), (0, .ref h0)]) hx hb dX3_numberedLines_3 rfl hl (by decide) rfl (fun ls hl => ?_)
  have hl9 : lv_has ls 3 [(0, .ref h0), (1, .int 0), (2, .int 0)] := lv_sub hl [2, 1, 0] rfl
  refine pw_loop (fun (zz : Int32 × Int32) H locs ls => match zz with | (v33, v34) => va_P D vwCl [(h0, .inr (3, [.ref c_lo, .ref c_hi, .int c_li])), (c_lo, .inl (kI, 200, .inl g_c_lo))] H ∧ va_S (fun _ : Nat => False) s.heap H locs ∧ lv_has ls 3 [(0, .ref h0), (1, .int v33), (2, .int v34)] ∧ 0 ≤ v34.toInt) (fun (zz : Int32 × Int32)  => match zz with | (v33, v34) => (2147483648 - v34.toInt).toNat) 0 0 (fun (zz : Int32 × Int32) ls => match zz with | (v33, v34) => F0 m 4 ls []) (fun zz H locs ls ih35 hI => ?_) (0, 0) _ _ _ ⟨hP, hS, hl9, (by decide)⟩
  obtain ⟨v33, v34⟩ := zz
  obtain ⟨hP, hS, hl, bv34⟩ := hI
  have bv34 : 0 ≤ v34.toInt := bv34
  have hP : va_P D vwCl [(h0, .inr (3, [.ref c_lo, .ref c_hi, .int c_li])), (c_lo, .inl (kI, 200, .inl g_c_lo))] H := hP
  have hK : va_K D vwCl [(kI, .int)] s := hK
  have hl : lv_has ls 3 [(0, .ref h0), (1, .int v33), (2, .int v34)] := hl
  refine W.eq (g2 := F0 m 4 ls []) rfl ?_
  refine lv_iload_n hx hb dX3_numberedLines_4 rfl (lv_at hl 2 rfl) ?_
  refine lv_aload_n hx hb dX3_numberedLines_5 rfl (lv_at hl 0 rfl) ?_
  refine va_get (D := D) (ci := 3) (v := .int c_li) (C := RX3) (T := TX3) (N := 3) hx hb hts (fun _ h => List.mem_cons_of_mem _ (List.mem_append_right _ h)) hown hK hP 0 rfl rfl 2 (by decide) (hts (.fieldLink RX3 24 "LineCites$Numbering" "lines" "I") (List.mem_of_getElem? (i := 1) rfl)) (fun _ h9 => h9) rfl dX3_numberedLines_6 ?_
  refine lv_icmp_ge (tgt := 29) hx hb dX3_numberedLines_9 (by decide) (fun c45 => ?_) (fun c45 => ?_)
  · have nc45 : c_li.toInt ≤ v34.toInt := pw_le c45 rfl rfl
    have mc45v34 := pw_max v34
    have mc45c_li := pw_max c_li
    refine lv_iload_n hx hb dX3_numberedLines_29 rfl (lv_at hl 1 rfl) ?_
    exact W.iret (v := v33) hx hb hr (fun t ht hW => ⟨⟨v33, (), rfl, trivial, trivial⟩, hS.F ht⟩) hS.2.2 dX3_numberedLines_30
  · have nc45 : v34.toInt < c_li.toInt := pw_nle c45 rfl rfl
    have mc45v34 := pw_max v34
    have mc45c_li := pw_max c_li
    refine lv_aload_n hx hb dX3_numberedLines_12 rfl (lv_at hl 0 rfl) ?_
    refine lv_iload_n hx hb dX3_numberedLines_13 rfl (lv_at hl 2 rfl) ?_
    have hPc := hP.sub (ws' := [(h0, .inr (3, [.ref c_lo, .ref c_hi, .int c_li])), (c_lo, .inl (kI, 200, .inl g_c_lo))]) [0, 1] rfl
    have hKc := hK.sub (tys' := [(kI, .int)]) [0] rfl
    refine va_calli (va_runV (As := [.int v34]) (rest := []) ⟨hx, hb, hml, hown, hts⟩ (c_X3_isNumbered l D h0 v34 c_lo c_hi c_li kI g_c_lo hg_c_lo) (cwV 1 hts g_X3_numberedLines_X3_isNumbered rfl rfl rfl (by decide +kernel) ⟨Nat.le_of_ble_eq_true rfl, Nat.le_of_ble_eq_true rfl⟩) ⟨fun a U g mk q => by obtain ⟨q0, qP, qK⟩ := q; exact ⟨q0, qP, va_K.moved (u := U) (U := U.calling g mk a) (Vm.Alike.refl U.vm) qK⟩, va_recv hKc hPc (ci := 3) (q0 := 0) rfl rfl, fun U hU hW => ⟨rfl, by rw [hU]; exact hPc, va_K.moved hW.alike hKc⟩⟩ rfl rfl hl.1 rfl (lv_room (Nat.le_of_ble_eq_true rfl)) dX3_numberedLines_14 ⟨Nat.le_of_ble_eq_true rfl, Nat.le_of_ble_eq_true rfl⟩) hS (fun _ _ h => h.elim) (fun _ h => h.elim) (fun r46 u t H1 locs ht hvm hw hB hz1 hk1 hS => ?_)
    have hP := pw_keep hP (fun q hq => hk1 q hq (fun h => h))
    generalize H1 = H at hP hS ⊢
    refine W.widen (k := 0) (n := 0) (Nat.le_of_ble_eq_true rfl) (Nat.le_of_ble_eq_true rfl) ?_
    have bor46 := hw.1
    have zor46 := pw_boolI bor46
    refine pw_join (fun (v49 : Int32) H locs ls => va_P D vwCl [(h0, .inr (3, [.ref c_lo, .ref c_hi, .int c_li])), (c_lo, .inl (kI, 200, .inl g_c_lo))] H ∧ va_S (fun _ : Nat => False) s.heap H locs ∧ lv_has ls 3 [(0, .ref h0), (1, .int v49), (2, .int v34)]) 0 0 (fun (v49 : Int32) ls => F0 m 23 ls []) (fun v49 H locs ls hI => ?_) (fun hJ50 => ?_)
    ·
      obtain ⟨hP, hS, hl⟩ := hI
      have hP : va_P D vwCl [(h0, .inr (3, [.ref c_lo, .ref c_hi, .int c_li])), (c_lo, .inl (kI, 200, .inl g_c_lo))] H := hP
      have hK : va_K D vwCl [(kI, .int)] s := hK
      have hl : lv_has ls 3 [(0, .ref h0), (1, .int v49), (2, .int v34)] := hl
      refine W.eq (g2 := F0 m 23 ls []) rfl ?_
      obtain ⟨x51, ex51⟩ : ∃ y : Int32, y = v34 + 1 := ⟨_, rfl⟩
      refine lv_iinc (v := x51) (lv' := [(2, .int x51), (0, .ref h0), (1, .int v49)]) hx hb dX3_numberedLines_23 hl (k := 2) rfl (by rw [ex51]; rfl) (by decide) rfl (fun ls hl => ?_)
      refine lv_goto (tgt := 4) hx hb dX3_numberedLines_26 (by decide) ?_
      have hP9 : va_P D vwCl [(h0, .inr (3, [.ref c_lo, .ref c_hi, .int c_li])), (c_lo, .inl (kI, 200, .inl g_c_lo))] H := hP.sub [0, 1] rfl
      have hl9 : lv_has ls 3 [(0, .ref h0), (1, .int v49), (2, .int x51)] := lv_sub hl [1, 2, 0] rfl
      refine W.widen (k := 0) (n := 0) (Nat.le_of_ble_eq_true rfl) (Nat.le_of_ble_eq_true rfl) ?_
      exact ih35 (v49, x51) _ _ _ (pw_up ex51 (by omega)) ⟨hP9, hS, hl9, (pw_upge ex51 (by omega) (by omega))⟩
    ·
      refine lv_if_eq (tgt := 23) hx hb dX3_numberedLines_17 (by decide) (fun c52 => ?_) (fun c52 => ?_)
      · have nc52 : r46.toInt = 0 := pw_eq c52 rfl (by decide)
        have hP9 : va_P D vwCl [(h0, .inr (3, [.ref c_lo, .ref c_hi, .int c_li])), (c_lo, .inl (kI, 200, .inl g_c_lo))] H := hP.sub [0, 1] rfl
        have hl9 : lv_has ls 3 [(0, .ref h0), (1, .int v33), (2, .int v34)] := lv_sub hl [0, 1, 2] rfl
        refine W.widen (k := 0) (n := 0) (Nat.le_of_ble_eq_true rfl) (Nat.le_of_ble_eq_true rfl) ?_
        exact hJ50 v33 _ _ _ ⟨hP9, hS, hl9⟩
      · have nc52 : r46.toInt ≠ 0 := pw_ne c52 rfl (by decide)
        obtain ⟨x53, ex53⟩ : ∃ y : Int32, y = v33 + 1 := ⟨_, rfl⟩
        refine lv_iinc (v := x53) (lv' := [(1, .int x53), (0, .ref h0), (2, .int v34)]) hx hb dX3_numberedLines_20 hl (k := 1) rfl (by rw [ex53]; rfl) (by decide) rfl (fun ls hl => ?_)
        have hP9 : va_P D vwCl [(h0, .inr (3, [.ref c_lo, .ref c_hi, .int c_li])), (c_lo, .inl (kI, 200, .inl g_c_lo))] H := hP.sub [0, 1] rfl
        have hl9 : lv_has ls 3 [(0, .ref h0), (1, .int x53), (2, .int v34)] := lv_sub hl [1, 0, 2] rfl
        refine W.widen (k := 0) (n := 0) (Nat.le_of_ble_eq_true rfl) (Nat.le_of_ble_eq_true rfl) ?_
        exact hJ50 x53 _ _ _ ⟨hP9, hS, hl9⟩
def w_X3_lineAmong : List Cond := .code yX3_lineAmong cX3_lineAmong 5 (some .int) :: ([.fieldLink RX3 24 "LineCites$Numbering" "lines" "I", .constant RX3 69 (-1000000), .methodLink RX3 61 yX3_has, .instanceMethod yX3_has, .selects RX3 yX3_has yX3_has, .initialized RX3, .code yX3_has cX3_has 4 (some .boolean), .methodLink RX3 49 yX3_isNumbered, .instanceMethod yX3_isNumbered, .selects RX3 yX3_isNumbered yX3_isNumbered, .code yX3_isNumbered cX3_isNumbered 2 (some .boolean), .methodLink RX3 46 yX3_low, .instanceMethod yX3_low, .selects RX3 yX3_low yX3_low, .code yX3_low cX3_low 2 (some .int), .fieldLink RX3 9 "LineCites$Numbering" "lows" "[I", .methodLink RX3 53 yX3_high, .instanceMethod yX3_high, .selects RX3 yX3_high yX3_high, .code yX3_high cX3_high 2 (some .int), .fieldLink RX3 15 "LineCites$Numbering" "highs" "[I"] ++ wsX30)
set_option maxRecDepth 20000 in
theorem g_X3_lineAmong_X3_has : GoodIn w_X3_lineAmong (wsV RX3 61 RX3 yX3_has w_X3_has) := goodIn_r _ [3, 4, 5, 6, 7, 8, 9, 10, 6, 11, 12, 13, 14, 15, 16, 17, 18, 19, 20, 21, 22, 23, 24] rfl (by decide +kernel)
set_option maxHeartbeats 4000000 in
set_option maxRecDepth 100000 in
theorem c_X3_lineAmong (l : Launch) (D : va_G) (h0 : Nat) (i_n : Int32) (i_i : Int32) (c_lo : Nat) (c_hi : Nat) (c_li : Int32) (kI : ClassId) (g_c_lo : Nat → Int32) (g_c_hi : Nat → Int32) (hg_c_lo : bN g_c_lo) (hg_c_hi : bN g_c_hi) : Met l yX3_lineAmong w_X3_lineAmong ({ frames := 3, cells := 0, slots := 0, locals := 65 }) (va_Pc [.ref h0, .int i_n, .int i_i] (fun U => va_P D vwCl [(h0, .inr (3, [.ref c_lo, .ref c_hi, .int c_li])), (c_lo, .inl (kI, 200, .inl g_c_lo)), (c_hi, .inl (kI, 200, .inl g_c_hi))] U.heap ∧ va_K D vwCl [(kI, .int)] U)) (va_Qi (fun (r : Int32) (_ : Unit) => True) (fun _ _ => True) (fun _ => False)) 0 0 (fun _ => False) := by
  refine Met.ofW (cc := cX3_lineAmong) (maxL := 5) (ret := (some .int)) (by decide) rfl ?_
  intro p e s m args below meth c s₁ B hml hv
  obtain ⟨rfl, hP, hK⟩ := hv
  have hx := B.exec
  have hb := B.bytes
  have hr := B.returns
  have hts := atoms_spec (ws := w_X3_lineAmong) B.pre
  have hown : s.vm.findClass RX3 = some m.cls := findClass_of_methodNamed B.named
  have hlocks := B.notSynchronized
  have hS : va_S (fun _ : Nat => False) s.heap s.heap [] := va_S.rf
  have hP : va_P D vwCl [(h0, .inr (3, [.ref c_lo, .ref c_hi, .int c_li])), (c_lo, .inl (kI, 200, .inl g_c_lo)), (c_hi, .inl (kI, 200, .inl g_c_hi))] s.heap := hP
  have hl := lv_entry ([.ref h0, .int i_n, .int i_i]) (n := 5) (Nat.le_of_ble_eq_true rfl)
  rw [lg_entry_eq]
  generalize (lg_sl ([.ref h0, .int i_n, .int i_i]) ++ List.replicate (5 - (lg_sl ([.ref h0, .int i_n, .int i_i])).length) Slot.unset).toArray = ls at hl ⊢
  have hl : lv_has ls 5 [(0, .ref h0), (1, .int i_n), (2, .int i_i)] := hl
  obtain ⟨H, hHe⟩ : ∃ H : Heap, H = s.heap := ⟨_, rfl⟩
  rw [← hHe] at hP
  have hS : va_S (fun _ : Nat => False) s.heap H [] := by rw [hHe]; exact hS
  refine pw_heap hHe ?_
  refine lv_iconst (v := (-1)) hx hb dX3_lineAmong_0 (by decide) ?_
  refine lv_istore_n (lv' := [(3, .int (-1)), (0, .ref h0), (1, .int i_n), (2, .int i_i)]) hx hb dX3_lineAmong_1 rfl hl (by decide) rfl (fun ls hl => ?_)
  refine lv_iconst (v := 0) hx hb dX3_lineAmong_2 (by decide) ?_
  refine lv_istore (lv' := [(4, .int 0), (3, .int (-1)), (0, .ref h0), (1, .int i_n), (2, .int i_i)]) hx hb dX3_lineAmong_3 hl (by decide) rfl (fun ls hl => ?_)
  have hl9 : lv_has ls 5 [(0, .ref h0), (1, .int i_n), (2, .int i_i), (3, .int (-1)), (4, .int 0)] := lv_sub hl [2, 3, 4, 1, 0] rfl
  refine pw_loop (fun (zz : Int32 × Int32) H locs ls => match zz with | (v14, v15) => va_P D vwCl [(h0, .inr (3, [.ref c_lo, .ref c_hi, .int c_li])), (c_lo, .inl (kI, 200, .inl g_c_lo)), (c_hi, .inl (kI, 200, .inl g_c_hi))] H ∧ va_S (fun _ : Nat => False) s.heap H locs ∧ lv_has ls 5 [(0, .ref h0), (1, .int i_n), (2, .int i_i), (3, .int v14), (4, .int v15)] ∧ 0 ≤ v15.toInt) (fun (zz : Int32 × Int32)  => match zz with | (v14, v15) => (2147483648 - v15.toInt).toNat) 0 0 (fun (zz : Int32 × Int32) ls => match zz with | (v14, v15) => F0 m 5 ls []) (fun zz H locs ls ih16 hI => ?_) ((-1), 0) _ _ _ ⟨hP, hS, hl9, (by decide)⟩
  obtain ⟨v14, v15⟩ := zz
  obtain ⟨hP, hS, hl, bv15⟩ := hI
  have bv15 : 0 ≤ v15.toInt := bv15
  have hP : va_P D vwCl [(h0, .inr (3, [.ref c_lo, .ref c_hi, .int c_li])), (c_lo, .inl (kI, 200, .inl g_c_lo)), (c_hi, .inl (kI, 200, .inl g_c_hi))] H := hP
  have hK : va_K D vwCl [(kI, .int)] s := hK
  have hl : lv_has ls 5 [(0, .ref h0), (1, .int i_n), (2, .int i_i), (3, .int v14), (4, .int v15)] := hl
  refine W.eq (g2 := F0 m 5 ls []) rfl ?_
  refine lv_iload hx hb dX3_lineAmong_5 (lv_at hl 4 rfl) ?_
  refine lv_aload_n hx hb dX3_lineAmong_7 rfl (lv_at hl 0 rfl) ?_
  refine va_get (D := D) (ci := 3) (v := .int c_li) (C := RX3) (T := TX3) (N := 3) hx hb hts (fun _ h => List.mem_cons_of_mem _ (List.mem_append_right _ h)) hown hK hP 0 rfl rfl 2 (by decide) (hts (.fieldLink RX3 24 "LineCites$Numbering" "lines" "I") (List.mem_of_getElem? (i := 1) rfl)) (fun _ h9 => h9) rfl dX3_lineAmong_8 ?_
  refine lv_icmp_ge (tgt := 45) hx hb dX3_lineAmong_11 (by decide) (fun c17 => ?_) (fun c17 => ?_)
  · have nc17 : c_li.toInt ≤ v15.toInt := pw_le c17 rfl rfl
    have mc17v15 := pw_max v15
    have mc17c_li := pw_max c_li
    refine lv_ldc hx hb hown (hts (.constant RX3 69 (-1000000)) (List.mem_of_getElem? (i := 2) rfl)) dX3_lineAmong_45 ?_
    exact W.iret (v := (-1000000)) hx hb hr (fun t ht hW => ⟨⟨(-1000000), (), rfl, trivial, trivial⟩, hS.F ht⟩) hS.2.2 dX3_lineAmong_47
  · have nc17 : v15.toInt < c_li.toInt := pw_nle c17 rfl rfl
    have mc17v15 := pw_max v15
    have mc17c_li := pw_max c_li
    refine lv_aload_n hx hb dX3_lineAmong_14 rfl (lv_at hl 0 rfl) ?_
    refine lv_iload hx hb dX3_lineAmong_15 (lv_at hl 4 rfl) ?_
    refine lv_iload_n hx hb dX3_lineAmong_17 rfl (lv_at hl 1 rfl) ?_
    refine lv_iload_n hx hb dX3_lineAmong_18 rfl (lv_at hl 1 rfl) ?_
    have hPc := hP.sub (ws' := [(h0, .inr (3, [.ref c_lo, .ref c_hi, .int c_li])), (c_lo, .inl (kI, 200, .inl g_c_lo)), (c_hi, .inl (kI, 200, .inl g_c_hi))]) [0, 1, 2] rfl
    have hKc := hK.sub (tys' := [(kI, .int)]) [0] rfl
    refine va_calli (va_runV (As := [.int v15, .int i_n, .int i_n]) (rest := []) ⟨hx, hb, hml, hown, hts⟩ (c_X3_has l D h0 v15 i_n i_n c_lo c_hi c_li kI g_c_lo g_c_hi hg_c_lo hg_c_hi) (cwV 3 hts g_X3_lineAmong_X3_has rfl rfl rfl (by decide +kernel) ⟨Nat.le_of_ble_eq_true rfl, Nat.le_of_ble_eq_true rfl⟩) ⟨fun a U g mk q => by obtain ⟨q0, qP, qK⟩ := q; exact ⟨q0, qP, va_K.moved (u := U) (U := U.calling g mk a) (Vm.Alike.refl U.vm) qK⟩, va_recv hKc hPc (ci := 3) (q0 := 0) rfl rfl, fun U hU hW => ⟨rfl, by rw [hU]; exact hPc, va_K.moved hW.alike hKc⟩⟩ rfl rfl hl.1 rfl (lv_room (Nat.le_of_ble_eq_true rfl)) dX3_lineAmong_19 ⟨Nat.le_of_ble_eq_true rfl, Nat.le_of_ble_eq_true rfl⟩) hS (fun _ _ h => h.elim) (fun _ h => h.elim) (fun r18 u t H1 locs ht hvm hw hB hz1 hk1 hS => ?_)
    have hP := pw_keep hP (fun q hq => hk1 q hq (fun h => h))
    generalize H1 = H at hP hS ⊢
    refine W.widen (k := 0) (n := 0) (Nat.le_of_ble_eq_true rfl) (Nat.le_of_ble_eq_true rfl) ?_
    have bor18 := hw.1
    have zor18 := pw_boolI bor18
    refine lv_if_ne (tgt := 28) hx hb dX3_lineAmong_22 (by decide) (fun c19 => ?_) (fun c19 => ?_)
    · have nc19 : r18.toInt ≠ 0 := pw_ne c19 rfl (by decide)
      obtain ⟨x20, ex20⟩ : ∃ y : Int32, y = v14 + 1 := ⟨_, rfl⟩
      refine lv_iinc (v := x20) (lv' := [(3, .int x20), (0, .ref h0), (1, .int i_n), (2, .int i_i), (4, .int v15)]) hx hb dX3_lineAmong_28 hl (k := 3) rfl (by rw [ex20]; rfl) (by decide) rfl (fun ls hl => ?_)
      refine lv_iload_n hx hb dX3_lineAmong_31 rfl (lv_at hl 0 rfl) ?_
      refine lv_iload_n hx hb dX3_lineAmong_32 rfl (lv_at hl 3 rfl) ?_
      refine lv_icmp_ne (tgt := 39) hx hb dX3_lineAmong_33 (by decide) (fun c21 => ?_) (fun c21 => ?_)
      · have nc21 : x20.toInt ≠ i_i.toInt := pw_ne c21 rfl rfl
        have mc21x20 := pw_max x20
        have mc21i_i := pw_max i_i
        obtain ⟨x22, ex22⟩ : ∃ y : Int32, y = v15 + 1 := ⟨_, rfl⟩
        refine lv_iinc (v := x22) (lv' := [(4, .int x22), (3, .int x20), (0, .ref h0), (1, .int i_n), (2, .int i_i)]) hx hb dX3_lineAmong_39 hl (k := 4) rfl (by rw [ex22]; rfl) (by decide) rfl (fun ls hl => ?_)
        refine lv_goto (tgt := 5) hx hb dX3_lineAmong_42 (by decide) ?_
        have hP9 : va_P D vwCl [(h0, .inr (3, [.ref c_lo, .ref c_hi, .int c_li])), (c_lo, .inl (kI, 200, .inl g_c_lo)), (c_hi, .inl (kI, 200, .inl g_c_hi))] H := hP.sub [0, 1, 2] rfl
        have hl9 : lv_has ls 5 [(0, .ref h0), (1, .int i_n), (2, .int i_i), (3, .int x20), (4, .int x22)] := lv_sub hl [2, 3, 4, 1, 0] rfl
        refine W.widen (k := 0) (n := 0) (Nat.le_of_ble_eq_true rfl) (Nat.le_of_ble_eq_true rfl) ?_
        exact ih16 (x20, x22) _ _ _ (pw_up ex22 (by omega)) ⟨hP9, hS, hl9, (pw_upge ex22 (by omega) (by omega))⟩
      · have nc21 : x20.toInt = i_i.toInt := pw_eq c21 rfl rfl
        have mc21x20 := pw_max x20
        have mc21i_i := pw_max i_i
        refine lv_iload hx hb dX3_lineAmong_36 (lv_at hl 4 rfl) ?_
        exact W.iret (v := v15) hx hb hr (fun t ht hW => ⟨⟨v15, (), rfl, trivial, trivial⟩, hS.F ht⟩) hS.2.2 dX3_lineAmong_38
    · have nc19 : r18.toInt = 0 := pw_eq c19 rfl (by decide)
      refine lv_goto (tgt := 39) hx hb dX3_lineAmong_25 (by decide) ?_
      obtain ⟨x23, ex23⟩ : ∃ y : Int32, y = v15 + 1 := ⟨_, rfl⟩
      refine lv_iinc (v := x23) (lv' := [(4, .int x23), (0, .ref h0), (1, .int i_n), (2, .int i_i), (3, .int v14)]) hx hb dX3_lineAmong_39 hl (k := 4) rfl (by rw [ex23]; rfl) (by decide) rfl (fun ls hl => ?_)
      refine lv_goto (tgt := 5) hx hb dX3_lineAmong_42 (by decide) ?_
      have hP9 : va_P D vwCl [(h0, .inr (3, [.ref c_lo, .ref c_hi, .int c_li])), (c_lo, .inl (kI, 200, .inl g_c_lo)), (c_hi, .inl (kI, 200, .inl g_c_hi))] H := hP.sub [0, 1, 2] rfl
      have hl9 : lv_has ls 5 [(0, .ref h0), (1, .int i_n), (2, .int i_i), (3, .int v14), (4, .int x23)] := lv_sub hl [1, 2, 3, 4, 0] rfl
      refine W.widen (k := 0) (n := 0) (Nat.le_of_ble_eq_true rfl) (Nat.le_of_ble_eq_true rfl) ?_
      exact ih16 (v14, x23) _ _ _ (pw_up ex23 (by omega)) ⟨hP9, hS, hl9, (pw_upge ex23 (by omega) (by omega))⟩
def w_X3_beginsBareRow : List Cond := .code yX3_beginsBareRow cX3_beginsBareRow 2 (some .boolean) :: ([.methodLink RX3 49 yX3_isNumbered, .instanceMethod yX3_isNumbered, .selects RX3 yX3_isNumbered yX3_isNumbered, .initialized RX3, .code yX3_isNumbered cX3_isNumbered 2 (some .boolean), .methodLink RX3 46 yX3_low, .instanceMethod yX3_low, .selects RX3 yX3_low yX3_low, .code yX3_low cX3_low 2 (some .int), .fieldLink RX3 9 "LineCites$Numbering" "lows" "[I"] ++ wsX30)
set_option maxRecDepth 20000 in
theorem g_X3_beginsBareRow_X3_isNumbered : GoodIn w_X3_beginsBareRow (wsV RX3 49 RX3 yX3_isNumbered w_X3_isNumbered) := goodIn_r _ [1, 2, 3, 4, 5, 6, 7, 8, 4, 9, 10, 11, 12, 13] rfl (by decide +kernel)
set_option maxHeartbeats 4000000 in
set_option maxRecDepth 100000 in
theorem c_X3_beginsBareRow (l : Launch) (D : va_G) (h0 : Nat) (i_n : Int32) (c_lo : Nat) (c_hi : Nat) (c_li : Int32) (kI : ClassId) (g_c_lo : Nat → Int32) (hg_c_lo : bN g_c_lo) : Met l yX3_beginsBareRow w_X3_beginsBareRow ({ frames := 2, cells := 0, slots := 0, locals := 42 }) (va_Pc [.ref h0, .int i_n] (fun U => va_P D vwCl [(h0, .inr (3, [.ref c_lo, .ref c_hi, .int c_li])), (c_lo, .inl (kI, 200, .inl g_c_lo))] U.heap ∧ va_K D vwCl [(kI, .int)] U)) (va_Qi (fun (r : Int32) (_ : Unit) => (r = 0 ∨ r = 1) ∧ True) (fun _ _ => True) (fun _ => False)) 0 0 (fun _ => False) := by
  refine Met.ofW (cc := cX3_beginsBareRow) (maxL := 2) (ret := (some .boolean)) (by decide) rfl ?_
  intro p e s m args below meth c s₁ B hml hv
  obtain ⟨rfl, hP, hK⟩ := hv
  have hx := B.exec
  have hb := B.bytes
  have hr := B.returns
  have hts := atoms_spec (ws := w_X3_beginsBareRow) B.pre
  have hown : s.vm.findClass RX3 = some m.cls := findClass_of_methodNamed B.named
  have hlocks := B.notSynchronized
  have hS : va_S (fun _ : Nat => False) s.heap s.heap [] := va_S.rf
  have hP : va_P D vwCl [(h0, .inr (3, [.ref c_lo, .ref c_hi, .int c_li])), (c_lo, .inl (kI, 200, .inl g_c_lo))] s.heap := hP
  have hl := lv_entry ([.ref h0, .int i_n]) (n := 2) (Nat.le_of_ble_eq_true rfl)
  rw [lg_entry_eq]
  generalize (lg_sl ([.ref h0, .int i_n]) ++ List.replicate (2 - (lg_sl ([.ref h0, .int i_n])).length) Slot.unset).toArray = ls at hl ⊢
  have hl : lv_has ls 2 [(0, .ref h0), (1, .int i_n)] := hl
  obtain ⟨H, hHe⟩ : ∃ H : Heap, H = s.heap := ⟨_, rfl⟩
  rw [← hHe] at hP
  have hS : va_S (fun _ : Nat => False) s.heap H [] := by rw [hHe]; exact hS
  refine pw_heap hHe ?_
  refine lv_aload_n hx hb dX3_beginsBareRow_0 rfl (lv_at hl 0 rfl) ?_
  refine lv_iload_n hx hb dX3_beginsBareRow_1 rfl (lv_at hl 1 rfl) ?_
  have hPc := hP.sub (ws' := [(h0, .inr (3, [.ref c_lo, .ref c_hi, .int c_li])), (c_lo, .inl (kI, 200, .inl g_c_lo))]) [0, 1] rfl
  have hKc := hK.sub (tys' := [(kI, .int)]) [0] rfl
  refine va_calli (va_runV (As := [.int i_n]) (rest := []) ⟨hx, hb, hml, hown, hts⟩ (c_X3_isNumbered l D h0 i_n c_lo c_hi c_li kI g_c_lo hg_c_lo) (cwV 1 hts g_X3_beginsBareRow_X3_isNumbered rfl rfl rfl (by decide +kernel) ⟨Nat.le_of_ble_eq_true rfl, Nat.le_of_ble_eq_true rfl⟩) ⟨fun a U g mk q => by obtain ⟨q0, qP, qK⟩ := q; exact ⟨q0, qP, va_K.moved (u := U) (U := U.calling g mk a) (Vm.Alike.refl U.vm) qK⟩, va_recv hKc hPc (ci := 3) (q0 := 0) rfl rfl, fun U hU hW => ⟨rfl, by rw [hU]; exact hPc, va_K.moved hW.alike hKc⟩⟩ rfl rfl hl.1 rfl (lv_room (Nat.le_of_ble_eq_true rfl)) dX3_beginsBareRow_2 ⟨Nat.le_of_ble_eq_true rfl, Nat.le_of_ble_eq_true rfl⟩) hS (fun _ _ h => h.elim) (fun _ h => h.elim) (fun r1 u t H1 locs ht hvm hw hB hz1 hk1 hS => ?_)
  have hP := pw_keep hP (fun q hq => hk1 q hq (fun h => h))
  generalize H1 = H at hP hS ⊢
  refine W.widen (k := 0) (n := 0) (Nat.le_of_ble_eq_true rfl) (Nat.le_of_ble_eq_true rfl) ?_
  have bor1 := hw.1
  have zor1 := pw_boolI bor1
  refine lv_if_ne (tgt := 26) hx hb dX3_beginsBareRow_5 (by decide) (fun c2 => ?_) (fun c2 => ?_)
  · have nc2 : r1.toInt ≠ 0 := pw_ne c2 rfl (by decide)
    refine lv_iconst (v := 0) hx hb dX3_beginsBareRow_26 (by decide) ?_
    exact W.zret (v := 0) (ty := .boolean) hx hb hr rfl (fun t ht hW => ⟨⟨0, (), rfl, ⟨Or.inl rfl, trivial⟩, trivial⟩, hS.F ht⟩) hS.2.2 dX3_beginsBareRow_27
  · have nc2 : r1.toInt = 0 := pw_eq c2 rfl (by decide)
    refine lv_iload_n hx hb dX3_beginsBareRow_8 rfl (lv_at hl 1 rfl) ?_
    refine lv_if_eq (tgt := 22) hx hb dX3_beginsBareRow_9 (by decide) (fun c3 => ?_) (fun c3 => ?_)
    · have nc3 : i_n.toInt = 0 := pw_eq c3 rfl (by decide)
      refine lv_iconst (v := 1) hx hb dX3_beginsBareRow_22 (by decide) ?_
      refine lv_goto (tgt := 27) hx hb dX3_beginsBareRow_23 (by decide) ?_
      exact W.zret (v := 1) (ty := .boolean) hx hb hr rfl (fun t ht hW => ⟨⟨1, (), rfl, ⟨Or.inr rfl, trivial⟩, trivial⟩, hS.F ht⟩) hS.2.2 dX3_beginsBareRow_27
    · have nc3 : i_n.toInt ≠ 0 := pw_ne c3 rfl (by decide)
      refine lv_aload_n hx hb dX3_beginsBareRow_12 rfl (lv_at hl 0 rfl) ?_
      refine lv_iload_n hx hb dX3_beginsBareRow_13 rfl (lv_at hl 1 rfl) ?_
      refine lv_iconst (v := 1) hx hb dX3_beginsBareRow_14 (by decide) ?_
      refine lv_isub hx hb dX3_beginsBareRow_15 ?_
      refine lv_topi (fun x4 ex4 => ?_)
      have hPc := hP.sub (ws' := [(h0, .inr (3, [.ref c_lo, .ref c_hi, .int c_li])), (c_lo, .inl (kI, 200, .inl g_c_lo))]) [0, 1] rfl
      have hKc := hK.sub (tys' := [(kI, .int)]) [0] rfl
      refine va_calli (va_runV (As := [.int x4]) (rest := []) ⟨hx, hb, hml, hown, hts⟩ (c_X3_isNumbered l D h0 x4 c_lo c_hi c_li kI g_c_lo hg_c_lo) (cwV 1 hts g_X3_beginsBareRow_X3_isNumbered rfl rfl rfl (by decide +kernel) ⟨Nat.le_of_ble_eq_true rfl, Nat.le_of_ble_eq_true rfl⟩) ⟨fun a U g mk q => by obtain ⟨q0, qP, qK⟩ := q; exact ⟨q0, qP, va_K.moved (u := U) (U := U.calling g mk a) (Vm.Alike.refl U.vm) qK⟩, va_recv hKc hPc (ci := 3) (q0 := 0) rfl rfl, fun U hU hW => ⟨rfl, by rw [hU]; exact hPc, va_K.moved hW.alike hKc⟩⟩ rfl rfl hl.1 rfl (lv_room (Nat.le_of_ble_eq_true rfl)) dX3_beginsBareRow_16 ⟨Nat.le_of_ble_eq_true rfl, Nat.le_of_ble_eq_true rfl⟩) hS (fun _ _ h => h.elim) (fun _ h => h.elim) (fun r5 u t H1 locs ht hvm hw hB hz1 hk1 hS => ?_)
      have hP := pw_keep hP (fun q hq => hk1 q hq (fun h => h))
      generalize H1 = H at hP hS ⊢
      refine W.widen (k := 0) (n := 0) (Nat.le_of_ble_eq_true rfl) (Nat.le_of_ble_eq_true rfl) ?_
      have bor5 := hw.1
      have zor5 := pw_boolI bor5
      refine lv_if_eq (tgt := 26) hx hb dX3_beginsBareRow_19 (by decide) (fun c6 => ?_) (fun c6 => ?_)
      · have nc6 : r5.toInt = 0 := pw_eq c6 rfl (by decide)
        refine lv_iconst (v := 0) hx hb dX3_beginsBareRow_26 (by decide) ?_
        exact W.zret (v := 0) (ty := .boolean) hx hb hr rfl (fun t ht hW => ⟨⟨0, (), rfl, ⟨Or.inl rfl, trivial⟩, trivial⟩, hS.F ht⟩) hS.2.2 dX3_beginsBareRow_27
      · have nc6 : r5.toInt ≠ 0 := pw_ne c6 rfl (by decide)
        refine lv_iconst (v := 1) hx hb dX3_beginsBareRow_22 (by decide) ?_
        refine lv_goto (tgt := 27) hx hb dX3_beginsBareRow_23 (by decide) ?_
        exact W.zret (v := 1) (ty := .boolean) hx hb hr rfl (fun t ht hW => ⟨⟨1, (), rfl, ⟨Or.inr rfl, trivial⟩, trivial⟩, hS.F ht⟩) hS.2.2 dX3_beginsBareRow_27
def w_X3_bareLinesFrom : List Cond := .code yX3_bareLinesFrom cX3_bareLinesFrom 3 (some .int) :: ([.fieldLink RX3 24 "LineCites$Numbering" "lines" "I", .methodLink RX3 49 yX3_isNumbered, .instanceMethod yX3_isNumbered, .selects RX3 yX3_isNumbered yX3_isNumbered, .initialized RX3, .code yX3_isNumbered cX3_isNumbered 2 (some .boolean), .methodLink RX3 46 yX3_low, .instanceMethod yX3_low, .selects RX3 yX3_low yX3_low, .code yX3_low cX3_low 2 (some .int), .fieldLink RX3 9 "LineCites$Numbering" "lows" "[I"] ++ wsX30)
set_option maxRecDepth 20000 in
theorem g_X3_bareLinesFrom_X3_isNumbered : GoodIn w_X3_bareLinesFrom (wsV RX3 49 RX3 yX3_isNumbered w_X3_isNumbered) := goodIn_r _ [2, 3, 4, 5, 6, 7, 8, 9, 5, 10, 11, 12, 13, 14] rfl (by decide +kernel)
set_option maxHeartbeats 4000000 in
set_option maxRecDepth 100000 in
theorem c_X3_bareLinesFrom (l : Launch) (D : va_G) (h0 : Nat) (i_n : Int32) (c_lo : Nat) (c_hi : Nat) (c_li : Int32) (kI : ClassId) (g_c_lo : Nat → Int32) (hg_c_lo : bN g_c_lo) : Met l yX3_bareLinesFrom w_X3_bareLinesFrom ({ frames := 2, cells := 0, slots := 0, locals := 42 }) (va_Pc [.ref h0, .int i_n] (fun U => va_P D vwCl [(h0, .inr (3, [.ref c_lo, .ref c_hi, .int c_li])), (c_lo, .inl (kI, 200, .inl g_c_lo))] U.heap ∧ va_K D vwCl [(kI, .int)] U)) (va_Qi (fun (r : Int32) (_ : Unit) => True) (fun _ _ => True) (fun _ => False)) 0 0 (fun _ => False) := by
  refine Met.ofW (cc := cX3_bareLinesFrom) (maxL := 3) (ret := (some .int)) (by decide) rfl ?_
  intro p e s m args below meth c s₁ B hml hv
  obtain ⟨rfl, hP, hK⟩ := hv
  have hx := B.exec
  have hb := B.bytes
  have hr := B.returns
  have hts := atoms_spec (ws := w_X3_bareLinesFrom) B.pre
  have hown : s.vm.findClass RX3 = some m.cls := findClass_of_methodNamed B.named
  have hlocks := B.notSynchronized
  have hS : va_S (fun _ : Nat => False) s.heap s.heap [] := va_S.rf
  have hP : va_P D vwCl [(h0, .inr (3, [.ref c_lo, .ref c_hi, .int c_li])), (c_lo, .inl (kI, 200, .inl g_c_lo))] s.heap := hP
  have hl := lv_entry ([.ref h0, .int i_n]) (n := 3) (Nat.le_of_ble_eq_true rfl)
  rw [lg_entry_eq]
  generalize (lg_sl ([.ref h0, .int i_n]) ++ List.replicate (3 - (lg_sl ([.ref h0, .int i_n])).length) Slot.unset).toArray = ls at hl ⊢
  have hl : lv_has ls 3 [(0, .ref h0), (1, .int i_n)] := hl
  obtain ⟨H, hHe⟩ : ∃ H : Heap, H = s.heap := ⟨_, rfl⟩
  rw [← hHe] at hP
  have hS : va_S (fun _ : Nat => False) s.heap H [] := by rw [hHe]; exact hS
  refine pw_heap hHe ?_
  refine lv_iload_n hx hb dX3_bareLinesFrom_0 rfl (lv_at hl 1 rfl) ?_
  refine lv_istore_n (lv' := [(2, .int i_n), (0, .ref h0), (1, .int i_n)]) hx hb dX3_bareLinesFrom_1 rfl hl (by decide) rfl (fun ls hl => ?_)
  have hl9 : lv_has ls 3 [(0, .ref h0), (1, .int i_n), (2, .int i_n)] := lv_sub hl [1, 2, 0] rfl
  refine pw_loop (fun (v22 : Int32) H locs ls => va_P D vwCl [(h0, .inr (3, [.ref c_lo, .ref c_hi, .int c_li])), (c_lo, .inl (kI, 200, .inl g_c_lo))] H ∧ va_S (fun _ : Nat => False) s.heap H locs ∧ lv_has ls 3 [(0, .ref h0), (1, .int i_n), (2, .int v22)]) (fun (v22 : Int32)  => (2147483648 - v22.toInt).toNat) 0 0 (fun (v22 : Int32) ls => F0 m 2 ls []) (fun zz H locs ls ih23 hI => ?_) i_n _ _ _ ⟨hP, hS, hl9⟩
  obtain ⟨v22, hzz⟩ : ∃ z, z = zz := ⟨_, rfl⟩
  subst hzz
  obtain ⟨hP, hS, hl⟩ := hI
  have hP : va_P D vwCl [(h0, .inr (3, [.ref c_lo, .ref c_hi, .int c_li])), (c_lo, .inl (kI, 200, .inl g_c_lo))] H := hP
  have hK : va_K D vwCl [(kI, .int)] s := hK
  have hl : lv_has ls 3 [(0, .ref h0), (1, .int i_n), (2, .int v22)] := hl
  refine W.eq (g2 := F0 m 2 ls []) rfl ?_
  refine lv_iload_n hx hb dX3_bareLinesFrom_2 rfl (lv_at hl 2 rfl) ?_
  refine lv_aload_n hx hb dX3_bareLinesFrom_3 rfl (lv_at hl 0 rfl) ?_
  refine va_get (D := D) (ci := 3) (v := .int c_li) (C := RX3) (T := TX3) (N := 3) hx hb hts (fun _ h => List.mem_cons_of_mem _ (List.mem_append_right _ h)) hown hK hP 0 rfl rfl 2 (by decide) (hts (.fieldLink RX3 24 "LineCites$Numbering" "lines" "I") (List.mem_of_getElem? (i := 1) rfl)) (fun _ h9 => h9) rfl dX3_bareLinesFrom_4 ?_
  refine pw_join (fun (_ : Unit) H locs ls => va_P D vwCl [(h0, .inr (3, [.ref c_lo, .ref c_hi, .int c_li])), (c_lo, .inl (kI, 200, .inl g_c_lo))] H ∧ va_S (fun _ : Nat => False) s.heap H locs ∧ lv_has ls 3 [(0, .ref h0), (1, .int i_n), (2, .int v22)]) 0 0 (fun (_ : Unit) ls => F0 m 24 ls []) (fun _ H locs ls hI => ?_) (fun hJ28 => ?_)
  ·
    obtain ⟨hP, hS, hl⟩ := hI
    have hP : va_P D vwCl [(h0, .inr (3, [.ref c_lo, .ref c_hi, .int c_li])), (c_lo, .inl (kI, 200, .inl g_c_lo))] H := hP
    have hK : va_K D vwCl [(kI, .int)] s := hK
    have hl : lv_has ls 3 [(0, .ref h0), (1, .int i_n), (2, .int v22)] := hl
    refine W.eq (g2 := F0 m 24 ls []) rfl ?_
    refine lv_iload_n hx hb dX3_bareLinesFrom_24 rfl (lv_at hl 2 rfl) ?_
    refine lv_iload_n hx hb dX3_bareLinesFrom_25 rfl (lv_at hl 1 rfl) ?_
    refine lv_isub hx hb dX3_bareLinesFrom_26 ?_
    refine lv_topi (fun x29 ex29 => ?_)
    exact W.iret (v := x29) hx hb hr (fun t ht hW => ⟨⟨x29, (), rfl, trivial, trivial⟩, hS.F ht⟩) hS.2.2 dX3_bareLinesFrom_27
  ·
    refine lv_icmp_ge (tgt := 24) hx hb dX3_bareLinesFrom_7 (by decide) (fun c30 => ?_) (fun c30 => ?_)
    · have nc30 : c_li.toInt ≤ v22.toInt := pw_le c30 rfl rfl
      have mc30v22 := pw_max v22
      have mc30c_li := pw_max c_li
      have hP9 : va_P D vwCl [(h0, .inr (3, [.ref c_lo, .ref c_hi, .int c_li])), (c_lo, .inl (kI, 200, .inl g_c_lo))] H := hP.sub [0, 1] rfl
      have hl9 : lv_has ls 3 [(0, .ref h0), (1, .int i_n), (2, .int v22)] := lv_sub hl [0, 1, 2] rfl
      refine W.widen (k := 0) (n := 0) (Nat.le_of_ble_eq_true rfl) (Nat.le_of_ble_eq_true rfl) ?_
      exact hJ28 () _ _ _ ⟨hP9, hS, hl9⟩
    · have nc30 : v22.toInt < c_li.toInt := pw_nle c30 rfl rfl
      have mc30v22 := pw_max v22
      have mc30c_li := pw_max c_li
      refine lv_aload_n hx hb dX3_bareLinesFrom_10 rfl (lv_at hl 0 rfl) ?_
      refine lv_iload_n hx hb dX3_bareLinesFrom_11 rfl (lv_at hl 2 rfl) ?_
      have hPc := hP.sub (ws' := [(h0, .inr (3, [.ref c_lo, .ref c_hi, .int c_li])), (c_lo, .inl (kI, 200, .inl g_c_lo))]) [0, 1] rfl
      have hKc := hK.sub (tys' := [(kI, .int)]) [0] rfl
      refine va_calli (va_runV (As := [.int v22]) (rest := []) ⟨hx, hb, hml, hown, hts⟩ (c_X3_isNumbered l D h0 v22 c_lo c_hi c_li kI g_c_lo hg_c_lo) (cwV 1 hts g_X3_bareLinesFrom_X3_isNumbered rfl rfl rfl (by decide +kernel) ⟨Nat.le_of_ble_eq_true rfl, Nat.le_of_ble_eq_true rfl⟩) ⟨fun a U g mk q => by obtain ⟨q0, qP, qK⟩ := q; exact ⟨q0, qP, va_K.moved (u := U) (U := U.calling g mk a) (Vm.Alike.refl U.vm) qK⟩, va_recv hKc hPc (ci := 3) (q0 := 0) rfl rfl, fun U hU hW => ⟨rfl, by rw [hU]; exact hPc, va_K.moved hW.alike hKc⟩⟩ rfl rfl hl.1 rfl (lv_room (Nat.le_of_ble_eq_true rfl)) dX3_bareLinesFrom_12 ⟨Nat.le_of_ble_eq_true rfl, Nat.le_of_ble_eq_true rfl⟩) hS (fun _ _ h => h.elim) (fun _ h => h.elim) (fun r31 u t H1 locs ht hvm hw hB hz1 hk1 hS => ?_)
      have hP := pw_keep hP (fun q hq => hk1 q hq (fun h => h))
      generalize H1 = H at hP hS ⊢
      refine W.widen (k := 0) (n := 0) (Nat.le_of_ble_eq_true rfl) (Nat.le_of_ble_eq_true rfl) ?_
      have bor31 := hw.1
      have zor31 := pw_boolI bor31
      refine lv_if_ne (tgt := 24) hx hb dX3_bareLinesFrom_15 (by decide) (fun c32 => ?_) (fun c32 => ?_)
      · have nc32 : r31.toInt ≠ 0 := pw_ne c32 rfl (by decide)
        have hP9 : va_P D vwCl [(h0, .inr (3, [.ref c_lo, .ref c_hi, .int c_li])), (c_lo, .inl (kI, 200, .inl g_c_lo))] H := hP.sub [0, 1] rfl
        have hl9 : lv_has ls 3 [(0, .ref h0), (1, .int i_n), (2, .int v22)] := lv_sub hl [0, 1, 2] rfl
        refine W.widen (k := 0) (n := 0) (Nat.le_of_ble_eq_true rfl) (Nat.le_of_ble_eq_true rfl) ?_
        exact hJ28 () _ _ _ ⟨hP9, hS, hl9⟩
      · have nc32 : r31.toInt = 0 := pw_eq c32 rfl (by decide)
        obtain ⟨x33, ex33⟩ : ∃ y : Int32, y = v22 + 1 := ⟨_, rfl⟩
        refine lv_iinc (v := x33) (lv' := [(2, .int x33), (0, .ref h0), (1, .int i_n)]) hx hb dX3_bareLinesFrom_18 hl (k := 2) rfl (by rw [ex33]; rfl) (by decide) rfl (fun ls hl => ?_)
        refine lv_goto (tgt := 2) hx hb dX3_bareLinesFrom_21 (by decide) ?_
        have hP9 : va_P D vwCl [(h0, .inr (3, [.ref c_lo, .ref c_hi, .int c_li])), (c_lo, .inl (kI, 200, .inl g_c_lo))] H := hP.sub [0, 1] rfl
        have hl9 : lv_has ls 3 [(0, .ref h0), (1, .int i_n), (2, .int x33)] := lv_sub hl [1, 2, 0] rfl
        refine W.widen (k := 0) (n := 0) (Nat.le_of_ble_eq_true rfl) (Nat.le_of_ble_eq_true rfl) ?_
        exact ih23 x33 _ _ _ (pw_up ex33 (by omega)) ⟨hP9, hS, hl9⟩
def w_X3_spanLines : List Cond := .code yX3_spanLines cX3_spanLines 5 none :: ([.methodLink RX3 56 yX5_clear, .instanceMethod yX5_clear, .selects RX5 yX5_clear yX5_clear, .initialized RX5, .code yX5_clear cX5_clear 1 none, .fieldLink RX5 9 "LineCites$Span" "size" "I", .fieldLink RX3 24 "LineCites$Numbering" "lines" "I", .methodLink RX3 61 yX3_has, .instanceMethod yX3_has, .selects RX3 yX3_has yX3_has, .initialized RX3, .code yX3_has cX3_has 4 (some .boolean), .methodLink RX3 49 yX3_isNumbered, .instanceMethod yX3_isNumbered, .selects RX3 yX3_isNumbered yX3_isNumbered, .code yX3_isNumbered cX3_isNumbered 2 (some .boolean), .methodLink RX3 46 yX3_low, .instanceMethod yX3_low, .selects RX3 yX3_low yX3_low, .code yX3_low cX3_low 2 (some .int), .fieldLink RX3 9 "LineCites$Numbering" "lows" "[I", .methodLink RX3 53 yX3_high, .instanceMethod yX3_high, .selects RX3 yX3_high yX3_high, .code yX3_high cX3_high 2 (some .int), .fieldLink RX3 15 "LineCites$Numbering" "highs" "[I", .methodLink RX3 65 yX5_put, .instanceMethod yX5_put, .selects RX5 yX5_put yX5_put, .code yX5_put cX5_put 2 none, .fieldLink RX5 15 "LineCites$Span" "least" "I", .fieldLink RX5 18 "LineCites$Span" "greatest" "I"] ++ wsX50 ++ wsX30)
set_option maxRecDepth 20000 in
theorem g_X3_spanLines_X5_clear : GoodIn w_X3_spanLines (wsV RX3 56 RX5 yX5_clear w_X5_clear) := goodIn_r _ [1, 2, 3, 4, 5, 6, 33, 34, 35] rfl (by decide +kernel)
set_option maxRecDepth 20000 in
theorem g_X3_spanLines_X3_has : GoodIn w_X3_spanLines (wsV RX3 61 RX3 yX3_has w_X3_has) := goodIn_r _ [8, 9, 10, 11, 12, 13, 14, 15, 11, 16, 17, 18, 19, 20, 21, 22, 23, 24, 25, 26, 36, 37, 38] rfl (by decide +kernel)
set_option maxRecDepth 20000 in
theorem g_X3_spanLines_X5_put : GoodIn w_X3_spanLines (wsV RX3 65 RX5 yX5_put w_X5_put) := goodIn_r _ [27, 28, 29, 4, 30, 6, 31, 32, 33, 34, 35] rfl (by decide +kernel)
set_option maxHeartbeats 4000000 in
set_option maxRecDepth 100000 in
theorem c_X3_spanLines (l : Launch) (D : va_G) (h0 : Nat) (i_a : Int32) (i_b : Int32) (a_s : Nat) (c_lo : Nat) (c_hi : Nat) (c_li : Int32) (kI : ClassId) (g_c_lo : Nat → Int32) (g_c_hi : Nat → Int32) (i_s : Int32) (i_l : Int32) (i_g : Int32) (sz : Nat) (hg_c_lo : bN g_c_lo) (hg_c_hi : bN g_c_hi) : Met l yX3_spanLines w_X3_spanLines ({ frames := 3, cells := 0, slots := 0, locals := 65 }) (va_Pc [.ref h0, .int i_a, .int i_b, .ref a_s] (fun U => U.heap.size = sz ∧ va_P D vwCl [(h0, .inr (3, [.ref c_lo, .ref c_hi, .int c_li])), (c_lo, .inl (kI, 200, .inl g_c_lo)), (c_hi, .inl (kI, 200, .inl g_c_hi)), (a_s, .inr (5, [.int i_s, .int i_l, .int i_g]))] U.heap ∧ va_K D vwCl [(kI, .int)] U ∧ va_D (fun _ => True) [(h0, .inr (3, [.ref c_lo, .ref c_hi, .int c_li])), (c_lo, .inl (kI, 200, .inl g_c_lo)), (c_hi, .inl (kI, 200, .inl g_c_hi)), (a_s, .inr (5, [.int i_s, .int i_l, .int i_g]))])) (va_Qv (fun (_ : Unit) => True) (fun (_ : Unit) t => ∃ (n_s : Int32) (n_l : Int32) (n_g : Int32), va_P D vwCl [(h0, .inr (3, [.ref c_lo, .ref c_hi, .int c_li])), (c_lo, .inl (kI, 200, .inl g_c_lo)), (c_hi, .inl (kI, 200, .inl g_c_hi)), (a_s, .inr (5, [.int n_s, .int n_l, .int n_g]))] t.heap ∧ va_K D vwCl [(kI, .int)] t ∧ va_D (va_A [(h0, .inr (3, [.ref c_lo, .ref c_hi, .int c_li])), (c_lo, .inl (kI, 200, .inl g_c_lo)), (c_hi, .inl (kI, 200, .inl g_c_hi)), (a_s, .inr (5, [.int i_s, .int i_l, .int i_g]))] sz) [(h0, .inr (3, [.ref c_lo, .ref c_hi, .int c_li])), (c_lo, .inl (kI, 200, .inl g_c_lo)), (c_hi, .inl (kI, 200, .inl g_c_hi)), (a_s, .inr (5, [.int n_s, .int n_l, .int n_g]))]) (va_A [(h0, .inr (3, [.ref c_lo, .ref c_hi, .int c_li])), (c_lo, .inl (kI, 200, .inl g_c_lo)), (c_hi, .inl (kI, 200, .inl g_c_hi)), (a_s, .inr (5, [.int i_s, .int i_l, .int i_g]))] sz)) 0 0 (va_A [(h0, .inr (3, [.ref c_lo, .ref c_hi, .int c_li])), (c_lo, .inl (kI, 200, .inl g_c_lo)), (c_hi, .inl (kI, 200, .inl g_c_hi)), (a_s, .inr (5, [.int i_s, .int i_l, .int i_g]))] sz) := by
  refine Met.ofW (cc := cX3_spanLines) (maxL := 5) (ret := none) (by decide) rfl ?_
  intro p e s m args below meth c s₁ B hml hv
  obtain ⟨rfl, hsz, hP, hK, hD0⟩ := hv
  have hx := B.exec
  have hb := B.bytes
  have hr := B.returns
  have hts := atoms_spec (ws := w_X3_spanLines) B.pre
  have hown : s.vm.findClass RX3 = some m.cls := findClass_of_methodNamed B.named
  have hlocks := B.notSynchronized
  subst hsz
  have hD := hD0.self (sz := s.heap.size)
  generalize hAe : va_A [(h0, .inr (3, [.ref c_lo, .ref c_hi, .int c_li])), (c_lo, .inl (kI, 200, .inl g_c_lo)), (c_hi, .inl (kI, 200, .inl g_c_hi)), (a_s, .inr (5, [.int i_s, .int i_l, .int i_g]))] s.heap.size = A at hD ⊢
  have hA : ∀ q : Nat, s.heap.size ≤ q → A q := fun q h => by rw [← hAe]; exact Or.inr h
  have hS : va_S A s.heap s.heap [] := va_S.rf
  have hP : va_P D vwCl [(h0, .inr (3, [.ref c_lo, .ref c_hi, .int c_li])), (c_lo, .inl (kI, 200, .inl g_c_lo)), (c_hi, .inl (kI, 200, .inl g_c_hi)), (a_s, .inr (5, [.int i_s, .int i_l, .int i_g]))] s.heap := hP
  have hl := lv_entry ([.ref h0, .int i_a, .int i_b, .ref a_s]) (n := 5) (Nat.le_of_ble_eq_true rfl)
  rw [lg_entry_eq]
  generalize (lg_sl ([.ref h0, .int i_a, .int i_b, .ref a_s]) ++ List.replicate (5 - (lg_sl ([.ref h0, .int i_a, .int i_b, .ref a_s])).length) Slot.unset).toArray = ls at hl ⊢
  have hl : lv_has ls 5 [(0, .ref h0), (1, .int i_a), (2, .int i_b), (3, .ref a_s)] := hl
  obtain ⟨H, hHe⟩ : ∃ H : Heap, H = s.heap := ⟨_, rfl⟩
  rw [← hHe] at hP
  have hS : va_S A s.heap H [] := by rw [hHe]; exact hS
  refine pw_heap hHe ?_
  refine lv_aload_n hx hb dX3_spanLines_0 rfl (lv_at hl 3 rfl) ?_
  have hPc := hP.sub (ws' := [(a_s, .inr (5, [.int i_s, .int i_l, .int i_g]))]) [3] rfl
  have hKc := hK.sub (tys' := []) [] rfl
  have hDc := hD.sub (ws' := [(a_s, .inr (5, [.int i_s, .int i_l, .int i_g]))]) [3] (by decide) rfl
  have hFc := va_free (wc := [(a_s, .inr (5, [.int i_s, .int i_l, .int i_g]))]) hD hS hA [3] rfl
  refine va_callv (va_runV (As := []) (rest := []) ⟨hx, hb, hml, hown, hts⟩ (c_X5_clear l D a_s i_s i_l i_g H.size) (cwV 0 hts g_X3_spanLines_X5_clear rfl rfl rfl (by decide +kernel) ⟨Nat.le_of_ble_eq_true rfl, Nat.le_of_ble_eq_true rfl⟩) ⟨fun a U g mk q => by obtain ⟨q0, q1, qP, qK, qD⟩ := q; exact ⟨q0, q1, qP, va_K.moved (u := U) (U := U.calling g mk a) (Vm.Alike.refl U.vm) qK, qD⟩, va_recv hKc hPc (ci := 5) (q0 := 0) rfl rfl, fun U hU hW => ⟨rfl, by rw [hU], by rw [hU]; exact hPc, va_K.moved hW.alike hKc, hDc.weaken (fun _ _ _ _ => trivial)⟩⟩ rfl rfl hl.1 rfl (lv_room (Nat.le_of_ble_eq_true rfl)) dX3_spanLines_1 ⟨Nat.le_of_ble_eq_true rfl, Nat.le_of_ble_eq_true rfl⟩) hS (fun q _ h => hFc q h) hFc (fun u t H1 locs ht hvm hw hB hz1 hk1 hS => ?_)
  obtain ⟨y2, y3, y4, hP1, hK1, hD1⟩ := hB
  rw [ht] at hP1
  have hK1 := va_K.moved hvm.symm hK1
  obtain ⟨hP, hD⟩ := va_join (wr := [(h0, .inr (3, [.ref c_lo, .ref c_hi, .int c_li])), (c_lo, .inl (kI, 200, .inl g_c_lo)), (c_hi, .inl (kI, 200, .inl g_c_hi))]) (w1 := [(a_s, .inr (5, [.int y2, .int y3, .int y4]))]) hP hD [3] [0, 1, 2] rfl rfl (by decide) (by decide) hk1 hFc hP1 hD1
  have hK := (hK.sub (tys' := [(kI, .int)]) [0] rfl).app hK1
  generalize H1 = H at hP hS ⊢
  have hP : va_P D vwCl [(h0, .inr (3, [.ref c_lo, .ref c_hi, .int c_li])), (c_lo, .inl (kI, 200, .inl g_c_lo)), (c_hi, .inl (kI, 200, .inl g_c_hi)), (a_s, .inr (5, [.int y2, .int y3, .int y4]))] H := hP
  have hD : va_D A [(h0, .inr (3, [.ref c_lo, .ref c_hi, .int c_li])), (c_lo, .inl (kI, 200, .inl g_c_lo)), (c_hi, .inl (kI, 200, .inl g_c_hi)), (a_s, .inr (5, [.int y2, .int y3, .int y4]))] := hD
  have hK : va_K D vwCl [(kI, .int)] s := hK
  refine W.widen (k := 0) (n := 0) (Nat.le_of_ble_eq_true rfl) (Nat.le_of_ble_eq_true rfl) ?_
  refine lv_iconst (v := 0) hx hb dX3_spanLines_4 (by decide) ?_
  refine lv_istore (lv' := [(4, .int 0), (0, .ref h0), (1, .int i_a), (2, .int i_b), (3, .ref a_s)]) hx hb dX3_spanLines_5 hl (by decide) rfl (fun ls hl => ?_)
  have hl9 : lv_has ls 5 [(0, .ref h0), (1, .int i_a), (2, .int i_b), (3, .ref a_s), (4, .int 0)] := lv_sub hl [1, 2, 3, 4, 0] rfl
  refine pw_loop (fun (zz : Int32 × Int32 × Int32 × Int32) H locs ls => match zz with | (v42, v43, v44, v45) => va_P D vwCl [(h0, .inr (3, [.ref c_lo, .ref c_hi, .int c_li])), (c_lo, .inl (kI, 200, .inl g_c_lo)), (c_hi, .inl (kI, 200, .inl g_c_hi)), (a_s, .inr (5, [.int v43, .int v44, .int v45]))] H ∧ va_D A [(h0, .inr (3, [.ref c_lo, .ref c_hi, .int c_li])), (c_lo, .inl (kI, 200, .inl g_c_lo)), (c_hi, .inl (kI, 200, .inl g_c_hi)), (a_s, .inr (5, [.int v43, .int v44, .int v45]))] ∧ va_S A s.heap H locs ∧ lv_has ls 5 [(0, .ref h0), (1, .int i_a), (2, .int i_b), (3, .ref a_s), (4, .int v42)] ∧ 0 ≤ v42.toInt) (fun (zz : Int32 × Int32 × Int32 × Int32)  => match zz with | (v42, v43, v44, v45) => (2147483648 - v42.toInt).toNat) 0 0 (fun (zz : Int32 × Int32 × Int32 × Int32) ls => match zz with | (v42, v43, v44, v45) => F0 m 7 ls []) (fun zz H locs ls ih46 hI => ?_) (0, y2, y3, y4) _ _ _ ⟨hP, hD, hS, hl9, (by decide)⟩
  obtain ⟨v42, v43, v44, v45⟩ := zz
  obtain ⟨hP, hD, hS, hl, bv42⟩ := hI
  have bv42 : 0 ≤ v42.toInt := bv42
  have hP : va_P D vwCl [(h0, .inr (3, [.ref c_lo, .ref c_hi, .int c_li])), (c_lo, .inl (kI, 200, .inl g_c_lo)), (c_hi, .inl (kI, 200, .inl g_c_hi)), (a_s, .inr (5, [.int v43, .int v44, .int v45]))] H := hP
  have hD : va_D A [(h0, .inr (3, [.ref c_lo, .ref c_hi, .int c_li])), (c_lo, .inl (kI, 200, .inl g_c_lo)), (c_hi, .inl (kI, 200, .inl g_c_hi)), (a_s, .inr (5, [.int v43, .int v44, .int v45]))] := hD
  have hK : va_K D vwCl [(kI, .int)] s := hK
  have hl : lv_has ls 5 [(0, .ref h0), (1, .int i_a), (2, .int i_b), (3, .ref a_s), (4, .int v42)] := hl
  refine W.eq (g2 := F0 m 7 ls []) rfl ?_
  refine lv_iload hx hb dX3_spanLines_7 (lv_at hl 4 rfl) ?_
  refine lv_aload_n hx hb dX3_spanLines_9 rfl (lv_at hl 0 rfl) ?_
  refine va_get (D := D) (ci := 3) (v := .int c_li) (C := RX3) (T := TX3) (N := 3) hx hb hts (fun _ h => List.mem_cons_of_mem _ (List.mem_append_right _ h)) hown hK hP 0 rfl rfl 2 (by decide) (hts (.fieldLink RX3 24 "LineCites$Numbering" "lines" "I") (List.mem_of_getElem? (i := 7) rfl)) (fun _ h9 => h9) rfl dX3_spanLines_10 ?_
  refine lv_icmp_ge (tgt := 39) hx hb dX3_spanLines_13 (by decide) (fun c47 => ?_) (fun c47 => ?_)
  · have nc47 : c_li.toInt ≤ v42.toInt := pw_le c47 rfl rfl
    have mc47v42 := pw_max v42
    have mc47c_li := pw_max c_li
    have hP9 := hP.sub (ws' := [(h0, .inr (3, [.ref c_lo, .ref c_hi, .int c_li])), (c_lo, .inl (kI, 200, .inl g_c_lo)), (c_hi, .inl (kI, 200, .inl g_c_hi)), (a_s, .inr (5, [.int v43, .int v44, .int v45]))]) [0, 1, 2, 3] rfl
    have hD9 := hD.sub (ws' := [(h0, .inr (3, [.ref c_lo, .ref c_hi, .int c_li])), (c_lo, .inl (kI, 200, .inl g_c_lo)), (c_hi, .inl (kI, 200, .inl g_c_hi)), (a_s, .inr (5, [.int v43, .int v44, .int v45]))]) [0, 1, 2, 3] (by decide) rfl
    have hK9 := hK.sub (tys' := [(kI, .int)]) [0] rfl
    refine W.widen (k := 0) (n := 0) (Nat.le_of_ble_eq_true rfl) (Nat.le_of_ble_eq_true rfl) ?_
    exact W.vret hx hb hr (fun t ht hW => ⟨⟨(), rfl, trivial, v43, v44, v45, by rw [ht]; exact hP9, va_K.moved hW.alike hK9, hD9⟩, hS.F ht⟩) hS.2.2 dX3_spanLines_39
  · have nc47 : v42.toInt < c_li.toInt := pw_nle c47 rfl rfl
    have mc47v42 := pw_max v42
    have mc47c_li := pw_max c_li
    refine lv_aload_n hx hb dX3_spanLines_16 rfl (lv_at hl 0 rfl) ?_
    refine lv_iload hx hb dX3_spanLines_17 (lv_at hl 4 rfl) ?_
    refine lv_iload_n hx hb dX3_spanLines_19 rfl (lv_at hl 1 rfl) ?_
    refine lv_iload_n hx hb dX3_spanLines_20 rfl (lv_at hl 2 rfl) ?_
    have hPc := hP.sub (ws' := [(h0, .inr (3, [.ref c_lo, .ref c_hi, .int c_li])), (c_lo, .inl (kI, 200, .inl g_c_lo)), (c_hi, .inl (kI, 200, .inl g_c_hi))]) [0, 1, 2] rfl
    have hKc := hK.sub (tys' := [(kI, .int)]) [0] rfl
    refine va_calli (va_runV (As := [.int v42, .int i_a, .int i_b]) (rest := []) ⟨hx, hb, hml, hown, hts⟩ (c_X3_has l D h0 v42 i_a i_b c_lo c_hi c_li kI g_c_lo g_c_hi hg_c_lo hg_c_hi) (cwV 3 hts g_X3_spanLines_X3_has rfl rfl rfl (by decide +kernel) ⟨Nat.le_of_ble_eq_true rfl, Nat.le_of_ble_eq_true rfl⟩) ⟨fun a U g mk q => by obtain ⟨q0, qP, qK⟩ := q; exact ⟨q0, qP, va_K.moved (u := U) (U := U.calling g mk a) (Vm.Alike.refl U.vm) qK⟩, va_recv hKc hPc (ci := 3) (q0 := 0) rfl rfl, fun U hU hW => ⟨rfl, by rw [hU]; exact hPc, va_K.moved hW.alike hKc⟩⟩ rfl rfl hl.1 rfl (lv_room (Nat.le_of_ble_eq_true rfl)) dX3_spanLines_21 ⟨Nat.le_of_ble_eq_true rfl, Nat.le_of_ble_eq_true rfl⟩) hS (fun _ _ h => h.elim) (fun _ h => h.elim) (fun r48 u t H1 locs ht hvm hw hB hz1 hk1 hS => ?_)
    have hP := pw_keep hP (fun q hq => hk1 q hq (fun h => h))
    generalize H1 = H at hP hS ⊢
    refine W.widen (k := 0) (n := 0) (Nat.le_of_ble_eq_true rfl) (Nat.le_of_ble_eq_true rfl) ?_
    have bor48 := hw.1
    have zor48 := pw_boolI bor48
    refine pw_join (fun (zz : Int32 × Int32 × Int32) H locs ls => match zz with | (v54, v55, v56) => va_P D vwCl [(h0, .inr (3, [.ref c_lo, .ref c_hi, .int c_li])), (c_lo, .inl (kI, 200, .inl g_c_lo)), (c_hi, .inl (kI, 200, .inl g_c_hi)), (a_s, .inr (5, [.int v54, .int v55, .int v56]))] H ∧ va_D A [(h0, .inr (3, [.ref c_lo, .ref c_hi, .int c_li])), (c_lo, .inl (kI, 200, .inl g_c_lo)), (c_hi, .inl (kI, 200, .inl g_c_hi)), (a_s, .inr (5, [.int v54, .int v55, .int v56]))] ∧ va_S A s.heap H locs ∧ lv_has ls 5 [(0, .ref h0), (1, .int i_a), (2, .int i_b), (3, .ref a_s), (4, .int v42)]) 0 0 (fun (zz : Int32 × Int32 × Int32) ls => match zz with | (v54, v55, v56) => F0 m 33 ls []) (fun zz H locs ls hI => ?_) (fun hJ57 => ?_)
    ·
      obtain ⟨v54, v55, v56⟩ := zz
      obtain ⟨hP, hD, hS, hl⟩ := hI
      have hP : va_P D vwCl [(h0, .inr (3, [.ref c_lo, .ref c_hi, .int c_li])), (c_lo, .inl (kI, 200, .inl g_c_lo)), (c_hi, .inl (kI, 200, .inl g_c_hi)), (a_s, .inr (5, [.int v54, .int v55, .int v56]))] H := hP
      have hD : va_D A [(h0, .inr (3, [.ref c_lo, .ref c_hi, .int c_li])), (c_lo, .inl (kI, 200, .inl g_c_lo)), (c_hi, .inl (kI, 200, .inl g_c_hi)), (a_s, .inr (5, [.int v54, .int v55, .int v56]))] := hD
      have hK : va_K D vwCl [(kI, .int)] s := hK
      have hl : lv_has ls 5 [(0, .ref h0), (1, .int i_a), (2, .int i_b), (3, .ref a_s), (4, .int v42)] := hl
      refine W.eq (g2 := F0 m 33 ls []) rfl ?_
      obtain ⟨x58, ex58⟩ : ∃ y : Int32, y = v42 + 1 := ⟨_, rfl⟩
      refine lv_iinc (v := x58) (lv' := [(4, .int x58), (0, .ref h0), (1, .int i_a), (2, .int i_b), (3, .ref a_s)]) hx hb dX3_spanLines_33 hl (k := 4) rfl (by rw [ex58]; rfl) (by decide) rfl (fun ls hl => ?_)
      refine lv_goto (tgt := 7) hx hb dX3_spanLines_36 (by decide) ?_
      have hP9 : va_P D vwCl [(h0, .inr (3, [.ref c_lo, .ref c_hi, .int c_li])), (c_lo, .inl (kI, 200, .inl g_c_lo)), (c_hi, .inl (kI, 200, .inl g_c_hi)), (a_s, .inr (5, [.int v54, .int v55, .int v56]))] H := hP.sub [0, 1, 2, 3] rfl
      have hD9 : va_D A [(h0, .inr (3, [.ref c_lo, .ref c_hi, .int c_li])), (c_lo, .inl (kI, 200, .inl g_c_lo)), (c_hi, .inl (kI, 200, .inl g_c_hi)), (a_s, .inr (5, [.int v54, .int v55, .int v56]))] := hD.sub [0, 1, 2, 3] (by decide) rfl
      have hl9 : lv_has ls 5 [(0, .ref h0), (1, .int i_a), (2, .int i_b), (3, .ref a_s), (4, .int x58)] := lv_sub hl [1, 2, 3, 4, 0] rfl
      refine W.widen (k := 0) (n := 0) (Nat.le_of_ble_eq_true rfl) (Nat.le_of_ble_eq_true rfl) ?_
      exact ih46 (x58, v54, v55, v56) _ _ _ (pw_up ex58 (by omega)) ⟨hP9, hD9, hS, hl9, (pw_upge ex58 (by omega) (by omega))⟩
    ·
      refine lv_if_eq (tgt := 33) hx hb dX3_spanLines_24 (by decide) (fun c59 => ?_) (fun c59 => ?_)
      · have nc59 : r48.toInt = 0 := pw_eq c59 rfl (by decide)
        have hP9 : va_P D vwCl [(h0, .inr (3, [.ref c_lo, .ref c_hi, .int c_li])), (c_lo, .inl (kI, 200, .inl g_c_lo)), (c_hi, .inl (kI, 200, .inl g_c_hi)), (a_s, .inr (5, [.int v43, .int v44, .int v45]))] H := hP.sub [0, 1, 2, 3] rfl
        have hD9 : va_D A [(h0, .inr (3, [.ref c_lo, .ref c_hi, .int c_li])), (c_lo, .inl (kI, 200, .inl g_c_lo)), (c_hi, .inl (kI, 200, .inl g_c_hi)), (a_s, .inr (5, [.int v43, .int v44, .int v45]))] := hD.sub [0, 1, 2, 3] (by decide) rfl
        have hl9 : lv_has ls 5 [(0, .ref h0), (1, .int i_a), (2, .int i_b), (3, .ref a_s), (4, .int v42)] := lv_sub hl [0, 1, 2, 3, 4] rfl
        refine W.widen (k := 0) (n := 0) (Nat.le_of_ble_eq_true rfl) (Nat.le_of_ble_eq_true rfl) ?_
        exact hJ57 (v43, v44, v45) _ _ _ ⟨hP9, hD9, hS, hl9⟩
      · have nc59 : r48.toInt ≠ 0 := pw_ne c59 rfl (by decide)
        refine lv_aload_n hx hb dX3_spanLines_27 rfl (lv_at hl 3 rfl) ?_
        refine lv_iload hx hb dX3_spanLines_28 (lv_at hl 4 rfl) ?_
        have hPc := hP.sub (ws' := [(a_s, .inr (5, [.int v43, .int v44, .int v45]))]) [3] rfl
        have hKc := hK.sub (tys' := []) [] rfl
        have hDc := hD.sub (ws' := [(a_s, .inr (5, [.int v43, .int v44, .int v45]))]) [3] (by decide) rfl
        have hFc := va_free (wc := [(a_s, .inr (5, [.int v43, .int v44, .int v45]))]) hD hS hA [3] rfl
        refine va_callv (va_runV (As := [.int v42]) (rest := []) ⟨hx, hb, hml, hown, hts⟩ (c_X5_put l D a_s v42 v43 v44 v45 H.size) (cwV 1 hts g_X3_spanLines_X5_put rfl rfl rfl (by decide +kernel) ⟨Nat.le_of_ble_eq_true rfl, Nat.le_of_ble_eq_true rfl⟩) ⟨fun a U g mk q => by obtain ⟨q0, q1, qP, qK, qD⟩ := q; exact ⟨q0, q1, qP, va_K.moved (u := U) (U := U.calling g mk a) (Vm.Alike.refl U.vm) qK, qD⟩, va_recv hKc hPc (ci := 5) (q0 := 0) rfl rfl, fun U hU hW => ⟨rfl, by rw [hU], by rw [hU]; exact hPc, va_K.moved hW.alike hKc, hDc.weaken (fun _ _ _ _ => trivial)⟩⟩ rfl rfl hl.1 rfl (lv_room (Nat.le_of_ble_eq_true rfl)) dX3_spanLines_30 ⟨Nat.le_of_ble_eq_true rfl, Nat.le_of_ble_eq_true rfl⟩) hS (fun q _ h => hFc q h) hFc (fun u t H1 locs ht hvm hw hB hz1 hk1 hS => ?_)
        obtain ⟨y61, y62, y63, hP1, hK1, hD1⟩ := hB
        rw [ht] at hP1
        have hK1 := va_K.moved hvm.symm hK1
        obtain ⟨hP, hD⟩ := va_join (wr := [(h0, .inr (3, [.ref c_lo, .ref c_hi, .int c_li])), (c_lo, .inl (kI, 200, .inl g_c_lo)), (c_hi, .inl (kI, 200, .inl g_c_hi))]) (w1 := [(a_s, .inr (5, [.int y61, .int y62, .int y63]))]) hP hD [3] [0, 1, 2] rfl rfl (by decide) (by decide) hk1 hFc hP1 hD1
        have hK := (hK.sub (tys' := [(kI, .int)]) [0] rfl).app hK1
        generalize H1 = H at hP hS ⊢
        have hP : va_P D vwCl [(h0, .inr (3, [.ref c_lo, .ref c_hi, .int c_li])), (c_lo, .inl (kI, 200, .inl g_c_lo)), (c_hi, .inl (kI, 200, .inl g_c_hi)), (a_s, .inr (5, [.int y61, .int y62, .int y63]))] H := hP
        have hD : va_D A [(h0, .inr (3, [.ref c_lo, .ref c_hi, .int c_li])), (c_lo, .inl (kI, 200, .inl g_c_lo)), (c_hi, .inl (kI, 200, .inl g_c_hi)), (a_s, .inr (5, [.int y61, .int y62, .int y63]))] := hD
        have hK : va_K D vwCl [(kI, .int)] s := hK
        refine W.widen (k := 0) (n := 0) (Nat.le_of_ble_eq_true rfl) (Nat.le_of_ble_eq_true rfl) ?_
        have hP9 : va_P D vwCl [(h0, .inr (3, [.ref c_lo, .ref c_hi, .int c_li])), (c_lo, .inl (kI, 200, .inl g_c_lo)), (c_hi, .inl (kI, 200, .inl g_c_hi)), (a_s, .inr (5, [.int y61, .int y62, .int y63]))] H := hP.sub [0, 1, 2, 3] rfl
        have hD9 : va_D A [(h0, .inr (3, [.ref c_lo, .ref c_hi, .int c_li])), (c_lo, .inl (kI, 200, .inl g_c_lo)), (c_hi, .inl (kI, 200, .inl g_c_hi)), (a_s, .inr (5, [.int y61, .int y62, .int y63]))] := hD.sub [0, 1, 2, 3] (by decide) rfl
        have hl9 : lv_has ls 5 [(0, .ref h0), (1, .int i_a), (2, .int i_b), (3, .ref a_s), (4, .int v42)] := lv_sub hl [0, 1, 2, 3, 4] rfl
        refine W.widen (k := 0) (n := 0) (Nat.le_of_ble_eq_true rfl) (Nat.le_of_ble_eq_true rfl) ?_
        exact hJ57 (y61, y62, y63) _ _ _ ⟨hP9, hD9, hS, hl9⟩
def w_X3_fillStretch : List Cond := .code yX3_fillStretch cX3_fillStretch 7 none :: ([.fieldLink RX3 9 "LineCites$Numbering" "lows" "[I", .fieldLink RX3 15 "LineCites$Numbering" "highs" "[I", .initialized RX9, .static yX9_lowOf, .code yX9_lowOf cX9_lowOf 4 (some .int), .static yX9_highOf, .code yX9_highOf cX9_highOf 5 (some .int), .methodLink RX9 343 yX9_lowOf] ++ wsX30)
set_option maxRecDepth 20000 in
theorem g_X3_fillStretch_X9_lowOf : GoodIn w_X3_fillStretch w_X9_lowOf := goodIn_r _ [5] rfl (by decide +kernel)
set_option maxRecDepth 20000 in
theorem g_X3_fillStretch_X9_highOf : GoodIn w_X3_fillStretch w_X9_highOf := goodIn_r _ [7, 8, 4, 3, 5] rfl (by decide +kernel)
set_option maxHeartbeats 4000000 in
set_option maxRecDepth 100000 in
theorem c_X3_fillStretch (l : Launch) (D : va_G) (h0 : Nat) (i_k : Int32) (i_fr : Int32) (i_m : Int32) (i_f : Int32) (c_lo : Nat) (c_hi : Nat) (c_li : Int32) (kI : ClassId) (g_c_lo : Nat → Int32) (g_c_hi : Nat → Int32) (sz : Nat) (h0i_m : 0 ≤ i_m.toInt) (h1i_m : i_m.toInt ≤ 999) (h0i_f : 0 ≤ i_f.toInt) (h1i_f : i_f.toInt ≤ 999) (hg_c_lo : bN g_c_lo) (hg_c_hi : bN g_c_hi) : Met l yX3_fillStretch w_X3_fillStretch ({ frames := 2, cells := 0, slots := 0, locals := 47 }) (va_Pc [.ref h0, .int i_k, .int i_fr, .int i_m, .int i_f] (fun U => U.heap.size = sz ∧ va_P D vwCl [(h0, .inr (3, [.ref c_lo, .ref c_hi, .int c_li])), (c_lo, .inl (kI, 200, .inl g_c_lo)), (c_hi, .inl (kI, 200, .inl g_c_hi))] U.heap ∧ va_K D vwCl [(kI, .int)] U ∧ va_D (fun _ => True) [(h0, .inr (3, [.ref c_lo, .ref c_hi, .int c_li])), (c_lo, .inl (kI, 200, .inl g_c_lo)), (c_hi, .inl (kI, 200, .inl g_c_hi))] ∧ va_Nw (.methodLinkNest RX3 39 yX9_lowOf "LineCites") U ∧ va_Nw (.methodLinkNest RX3 43 yX9_highOf "LineCites") U)) (va_Qv (fun (_ : Unit) => True) (fun (_ : Unit) t => ∃ (n_lo : Nat → Int32) (n_hi : Nat → Int32), va_P D vwCl [(h0, .inr (3, [.ref c_lo, .ref c_hi, .int c_li])), (c_lo, .inl (kI, 200, .inl n_lo)), (c_hi, .inl (kI, 200, .inl n_hi))] t.heap ∧ va_K D vwCl [(kI, .int)] t ∧ va_D (va_A [(h0, .inr (3, [.ref c_lo, .ref c_hi, .int c_li])), (c_lo, .inl (kI, 200, .inl g_c_lo)), (c_hi, .inl (kI, 200, .inl g_c_hi))] sz) [(h0, .inr (3, [.ref c_lo, .ref c_hi, .int c_li])), (c_lo, .inl (kI, 200, .inl n_lo)), (c_hi, .inl (kI, 200, .inl n_hi))] ∧ bN n_lo ∧ bN n_hi) (va_A [(h0, .inr (3, [.ref c_lo, .ref c_hi, .int c_li])), (c_lo, .inl (kI, 200, .inl g_c_lo)), (c_hi, .inl (kI, 200, .inl g_c_hi))] sz)) 0 0 (va_A [(h0, .inr (3, [.ref c_lo, .ref c_hi, .int c_li])), (c_lo, .inl (kI, 200, .inl g_c_lo)), (c_hi, .inl (kI, 200, .inl g_c_hi))] sz) := by
  refine Met.ofW (cc := cX3_fillStretch) (maxL := 7) (ret := none) (by decide) rfl ?_
  intro p e s m args below meth c s₁ B hml hv
  obtain ⟨rfl, hsz, hP, hK, hD0, hN3_39, hN3_43⟩ := hv
  have hx := B.exec
  have hb := B.bytes
  have hr := B.returns
  have hts := atoms_spec (ws := w_X3_fillStretch) B.pre
  have hown : s.vm.findClass RX3 = some m.cls := findClass_of_methodNamed B.named
  have hlocks := B.notSynchronized
  subst hsz
  have hD := hD0.self (sz := s.heap.size)
  generalize hAe : va_A [(h0, .inr (3, [.ref c_lo, .ref c_hi, .int c_li])), (c_lo, .inl (kI, 200, .inl g_c_lo)), (c_hi, .inl (kI, 200, .inl g_c_hi))] s.heap.size = A at hD ⊢
  have hA : ∀ q : Nat, s.heap.size ≤ q → A q := fun q h => by rw [← hAe]; exact Or.inr h
  have hS : va_S A s.heap s.heap [] := va_S.rf
  have hP : va_P D vwCl [(h0, .inr (3, [.ref c_lo, .ref c_hi, .int c_li])), (c_lo, .inl (kI, 200, .inl g_c_lo)), (c_hi, .inl (kI, 200, .inl g_c_hi))] s.heap := hP
  have hl := lv_entry ([.ref h0, .int i_k, .int i_fr, .int i_m, .int i_f]) (n := 7) (Nat.le_of_ble_eq_true rfl)
  rw [lg_entry_eq]
  generalize (lg_sl ([.ref h0, .int i_k, .int i_fr, .int i_m, .int i_f]) ++ List.replicate (7 - (lg_sl ([.ref h0, .int i_k, .int i_fr, .int i_m, .int i_f])).length) Slot.unset).toArray = ls at hl ⊢
  have hl : lv_has ls 7 [(0, .ref h0), (1, .int i_k), (2, .int i_fr), (3, .int i_m), (4, .int i_f)] := hl
  obtain ⟨H, hHe⟩ : ∃ H : Heap, H = s.heap := ⟨_, rfl⟩
  rw [← hHe] at hP
  have hS : va_S A s.heap H [] := by rw [hHe]; exact hS
  refine pw_heap hHe ?_
  refine lv_iconst (v := 0) hx hb dX3_fillStretch_0 (by decide) ?_
  refine lv_istore (lv' := [(5, .int 0), (0, .ref h0), (1, .int i_k), (2, .int i_fr), (3, .int i_m), (4, .int i_f)]) hx hb dX3_fillStretch_1 hl (by decide) rfl (fun ls hl => ?_)
  have hl9 : lv_has ls 7 [(0, .ref h0), (1, .int i_k), (2, .int i_fr), (3, .int i_m), (4, .int i_f), (5, .int 0)] := lv_sub hl [1, 2, 3, 4, 5, 0] rfl
  refine pw_loop (fun (zz : Int32 × (Nat → Int32) × (Nat → Int32)) H locs ls => match zz with | (v23, f24, f25) => va_P D vwCl [(h0, .inr (3, [.ref c_lo, .ref c_hi, .int c_li])), (c_lo, .inl (kI, 200, .inl f24)), (c_hi, .inl (kI, 200, .inl f25))] H ∧ va_D A [(h0, .inr (3, [.ref c_lo, .ref c_hi, .int c_li])), (c_lo, .inl (kI, 200, .inl f24)), (c_hi, .inl (kI, 200, .inl f25))] ∧ va_S A s.heap H locs ∧ lv_has ls 7 [(0, .ref h0), (1, .int i_k), (2, .int i_fr), (3, .int i_m), (4, .int i_f), (5, .int v23)] ∧ bN f24 ∧ bN f25 ∧ 0 ≤ v23.toInt) (fun (zz : Int32 × (Nat → Int32) × (Nat → Int32))  => match zz with | (v23, f24, f25) => (2147483648 - v23.toInt).toNat) 0 0 (fun (zz : Int32 × (Nat → Int32) × (Nat → Int32)) ls => match zz with | (v23, f24, f25) => F0 m 3 ls []) (fun zz H locs ls ih26 hI => ?_) (0, g_c_lo, g_c_hi) _ _ _ ⟨hP, hD, hS, hl9, hg_c_lo, hg_c_hi, (by decide)⟩
  obtain ⟨v23, f24, f25⟩ := zz
  obtain ⟨hP, hD, hS, hl, hf24, hf25, bv23⟩ := hI
  have bv23 : 0 ≤ v23.toInt := bv23
  have hP : va_P D vwCl [(h0, .inr (3, [.ref c_lo, .ref c_hi, .int c_li])), (c_lo, .inl (kI, 200, .inl f24)), (c_hi, .inl (kI, 200, .inl f25))] H := hP
  have hD : va_D A [(h0, .inr (3, [.ref c_lo, .ref c_hi, .int c_li])), (c_lo, .inl (kI, 200, .inl f24)), (c_hi, .inl (kI, 200, .inl f25))] := hD
  have hK : va_K D vwCl [(kI, .int)] s := hK
  have hl : lv_has ls 7 [(0, .ref h0), (1, .int i_k), (2, .int i_fr), (3, .int i_m), (4, .int i_f), (5, .int v23)] := hl
  refine W.eq (g2 := F0 m 3 ls []) rfl ?_
  refine lv_iload hx hb dX3_fillStretch_3 (lv_at hl 5 rfl) ?_
  refine lv_iload_n hx hb dX3_fillStretch_5 rfl (lv_at hl 3 rfl) ?_
  refine lv_icmp_ge (tgt := 79) hx hb dX3_fillStretch_6 (by decide) (fun c27 => ?_) (fun c27 => ?_)
  · have nc27 : i_m.toInt ≤ v23.toInt := pw_le c27 rfl rfl
    have mc27v23 := pw_max v23
    have mc27i_m := pw_max i_m
    have hP9 := hP.sub (ws' := [(h0, .inr (3, [.ref c_lo, .ref c_hi, .int c_li])), (c_lo, .inl (kI, 200, .inl f24)), (c_hi, .inl (kI, 200, .inl f25))]) [0, 1, 2] rfl
    have hD9 := hD.sub (ws' := [(h0, .inr (3, [.ref c_lo, .ref c_hi, .int c_li])), (c_lo, .inl (kI, 200, .inl f24)), (c_hi, .inl (kI, 200, .inl f25))]) [0, 1, 2] (by decide) rfl
    have hK9 := hK.sub (tys' := [(kI, .int)]) [0] rfl
    refine W.widen (k := 0) (n := 0) (Nat.le_of_ble_eq_true rfl) (Nat.le_of_ble_eq_true rfl) ?_
    exact W.vret hx hb hr (fun t ht hW => ⟨⟨(), rfl, trivial, f24, f25, by rw [ht]; exact hP9, va_K.moved hW.alike hK9, hD9, hf24, hf25⟩, hS.F ht⟩) hS.2.2 dX3_fillStretch_79
  · have nc27 : v23.toInt < i_m.toInt := pw_nle c27 rfl rfl
    have mc27v23 := pw_max v23
    have mc27i_m := pw_max i_m
    refine lv_iload_n hx hb dX3_fillStretch_9 rfl (lv_at hl 2 rfl) ?_
    refine lv_iload hx hb dX3_fillStretch_10 (lv_at hl 5 rfl) ?_
    refine lv_iadd hx hb dX3_fillStretch_12 ?_
    refine lv_topi (fun x28 ex28 => ?_)
    refine lv_istore (lv' := [(6, .int x28), (0, .ref h0), (1, .int i_k), (2, .int i_fr), (3, .int i_m), (4, .int i_f), (5, .int v23)]) hx hb dX3_fillStretch_13 hl (by decide) rfl (fun ls hl => ?_)
    refine lv_iload hx hb dX3_fillStretch_15 (lv_at hl 0 rfl) ?_
    refine lv_if_lt (tgt := 40) hx hb dX3_fillStretch_17 (by decide) (fun c29 => ?_) (fun c29 => ?_)
    · have nc29 : x28.toInt < 0 := pw_lt c29 rfl (by decide)
      have hP9 := hP.sub (ws' := [(h0, .inr (3, [.ref c_lo, .ref c_hi, .int c_li])), (c_lo, .inl (kI, 200, .inl f24)), (c_hi, .inl (kI, 200, .inl f25))]) [0, 1, 2] rfl
      have hD9 := hD.sub (ws' := [(h0, .inr (3, [.ref c_lo, .ref c_hi, .int c_li])), (c_lo, .inl (kI, 200, .inl f24)), (c_hi, .inl (kI, 200, .inl f25))]) [0, 1, 2] (by decide) rfl
      have hK9 := hK.sub (tys' := [(kI, .int)]) [0] rfl
      refine W.widen (k := 0) (n := 0) (Nat.le_of_ble_eq_true rfl) (Nat.le_of_ble_eq_true rfl) ?_
      exact W.vret hx hb hr (fun t ht hW => ⟨⟨(), rfl, trivial, f24, f25, by rw [ht]; exact hP9, va_K.moved hW.alike hK9, hD9, hf24, hf25⟩, hS.F ht⟩) hS.2.2 dX3_fillStretch_40
    · have nc29 : 0 ≤ x28.toInt := pw_nlt c29 rfl (by decide)
      refine lv_iload hx hb dX3_fillStretch_20 (lv_at hl 0 rfl) ?_
      refine lv_aload_n hx hb dX3_fillStretch_22 rfl (lv_at hl 1 rfl) ?_
      refine va_get (D := D) (ci := 3) (v := .ref c_lo) (C := RX3) (T := TX3) (N := 3) hx hb hts (fun _ h => List.mem_cons_of_mem _ (List.mem_append_right _ h)) hown hK hP 0 rfl rfl 0 (by decide) (hts (.fieldLink RX3 9 "LineCites$Numbering" "lows" "[I") (List.mem_of_getElem? (i := 1) rfl)) (fun _ h9 => h9) rfl dX3_fillStretch_23 ?_
      refine va_alen (v := 200) hx hb hK hP 1 0 rfl rfl rfl dX3_fillStretch_26 ?_
      refine lv_icmp_ge (tgt := 40) hx hb dX3_fillStretch_27 (by decide) (fun c30 => ?_) (fun c30 => ?_)
      · have nc30 : 200 ≤ x28.toInt := pw_le c30 (by decide) rfl
        have hP9 := hP.sub (ws' := [(h0, .inr (3, [.ref c_lo, .ref c_hi, .int c_li])), (c_lo, .inl (kI, 200, .inl f24)), (c_hi, .inl (kI, 200, .inl f25))]) [0, 1, 2] rfl
        have hD9 := hD.sub (ws' := [(h0, .inr (3, [.ref c_lo, .ref c_hi, .int c_li])), (c_lo, .inl (kI, 200, .inl f24)), (c_hi, .inl (kI, 200, .inl f25))]) [0, 1, 2] (by decide) rfl
        have hK9 := hK.sub (tys' := [(kI, .int)]) [0] rfl
        refine W.widen (k := 0) (n := 0) (Nat.le_of_ble_eq_true rfl) (Nat.le_of_ble_eq_true rfl) ?_
        exact W.vret hx hb hr (fun t ht hW => ⟨⟨(), rfl, trivial, f24, f25, by rw [ht]; exact hP9, va_K.moved hW.alike hK9, hD9, hf24, hf25⟩, hS.F ht⟩) hS.2.2 dX3_fillStretch_40
      · have nc30 : x28.toInt < 200 := pw_nle c30 (by decide) rfl
        refine lv_iload hx hb dX3_fillStretch_30 (lv_at hl 0 rfl) ?_
        refine lv_aload_n hx hb dX3_fillStretch_32 rfl (lv_at hl 1 rfl) ?_
        refine va_get (D := D) (ci := 3) (v := .ref c_hi) (C := RX3) (T := TX3) (N := 3) hx hb hts (fun _ h => List.mem_cons_of_mem _ (List.mem_append_right _ h)) hown hK hP 0 rfl rfl 1 (by decide) (hts (.fieldLink RX3 15 "LineCites$Numbering" "highs" "[I") (List.mem_of_getElem? (i := 2) rfl)) (fun _ h9 => h9) rfl dX3_fillStretch_33 ?_
        refine va_alen (v := 200) hx hb hK hP 2 0 rfl rfl rfl dX3_fillStretch_36 ?_
        refine lv_icmp_lt (tgt := 41) hx hb dX3_fillStretch_37 (by decide) (fun c31 => ?_) (fun c31 => False.elim (by have nn : 200 ≤ x28.toInt := pw_nlt c31 rfl (by decide); omega))
        have nc31 : x28.toInt < 200 := pw_lt c31 rfl (by decide)
        refine lv_aload_n hx hb dX3_fillStretch_41 rfl (lv_at hl 1 rfl) ?_
        refine va_get (D := D) (ci := 3) (v := .ref c_lo) (C := RX3) (T := TX3) (N := 3) hx hb hts (fun _ h => List.mem_cons_of_mem _ (List.mem_append_right _ h)) hown hK hP 0 rfl rfl 0 (by decide) (hts (.fieldLink RX3 9 "LineCites$Numbering" "lows" "[I") (List.mem_of_getElem? (i := 1) rfl)) (fun _ h9 => h9) rfl dX3_fillStretch_42 ?_
        refine lv_iload hx hb dX3_fillStretch_45 (lv_at hl 0 rfl) ?_
        refine lv_iload_n hx hb dX3_fillStretch_47 rfl (lv_at hl 2 rfl) ?_
        refine lv_iload_n hx hb dX3_fillStretch_48 rfl (lv_at hl 4 rfl) ?_
        refine lv_iload hx hb dX3_fillStretch_49 (lv_at hl 5 rfl) ?_
        refine lv_iload hx hb dX3_fillStretch_51 (lv_at hl 6 rfl) ?_
        have hPc := hP.sub (ws' := []) [] rfl
        have hKc := hK.sub (tys' := []) [] rfl
        refine va_calli (va_runSN (As := [.int i_k, .int i_m, .int i_f, .int v23]) (rest := [.int x28, .ref c_lo]) ⟨hx, hb, hml, hown, hts⟩ (c_X9_lowOf l D i_k i_m i_f v23 (by first | decide | omega) (by first | decide | omega) (by first | decide | omega) (by first | decide | omega) (by first | decide | omega) (by first | decide | omega)) ⟨va_cnB 4 hts g_X3_fillStretch_X9_lowOf rfl rfl rfl hN3_39 (hts (.initialized RX9) (List.mem_of_getElem? (i := 3) rfl)) (by decide +kernel) ⟨Nat.le_of_ble_eq_true rfl, Nat.le_of_ble_eq_true rfl⟩, (hts (.static yX9_lowOf) (List.mem_of_getElem? (i := 4) rfl)), trivial⟩ ⟨fun a U g mk q => by obtain ⟨q0, qP, qK⟩ := q; exact ⟨q0, qP, va_K.moved (u := U) (U := U.calling g mk a) (Vm.Alike.refl U.vm) qK⟩, fun U hU hW => ⟨rfl, by rw [hU]; exact hPc, va_K.moved hW.alike hKc⟩⟩ rfl rfl hl.1 rfl (lv_room (Nat.le_of_ble_eq_true rfl)) dX3_fillStretch_53 ⟨Nat.le_of_ble_eq_true rfl, Nat.le_of_ble_eq_true rfl⟩) hS (fun _ _ h => h.elim) (fun _ h => h.elim) (fun r32 u t H1 locs ht hvm hw hB hz1 hk1 hS => ?_)
        have hP := pw_keep hP (fun q hq => hk1 q hq (fun h => h))
        generalize H1 = H at hP hS ⊢
        refine W.widen (k := 0) (n := 0) (Nat.le_of_ble_eq_true rfl) (Nat.le_of_ble_eq_true rfl) ?_
        have hfr32 := hw
        refine va_iast hx hb hK hP hD hS 1 0 rfl rfl (vp_in_iff.mpr ⟨by omega, by omega⟩) dX3_fillStretch_56 (fun H locs hP hD hS => ?_)
        obtain ⟨g33, eg33⟩ : ∃ g : Nat → Int32, g = upd f24 (x28 : Int32).toNatClampNeg r32 := ⟨_, rfl⟩
        have hP : va_P D vwCl [(h0, .inr (3, [.ref c_lo, .ref c_hi, .int c_li])), (c_lo, .inl (kI, 200, .inl (upd f24 (x28 : Int32).toNatClampNeg r32))), (c_hi, .inl (kI, 200, .inl f25))] H := hP
        have hD : va_D A [(h0, .inr (3, [.ref c_lo, .ref c_hi, .int c_li])), (c_lo, .inl (kI, 200, .inl (upd f24 (x28 : Int32).toNatClampNeg r32))), (c_hi, .inl (kI, 200, .inl f25))] := hD
        have hK : va_K D vwCl [(kI, .int)] s := hK
        rw [← eg33] at hP hD
        have hg33 : bN g33 := bN_upd hf24 eg33 (by omega) (by omega)
        refine lv_aload_n hx hb dX3_fillStretch_57 rfl (lv_at hl 1 rfl) ?_
        refine va_get (D := D) (ci := 3) (v := .ref c_hi) (C := RX3) (T := TX3) (N := 3) hx hb hts (fun _ h => List.mem_cons_of_mem _ (List.mem_append_right _ h)) hown hK hP 0 rfl rfl 1 (by decide) (hts (.fieldLink RX3 15 "LineCites$Numbering" "highs" "[I") (List.mem_of_getElem? (i := 2) rfl)) (fun _ h9 => h9) rfl dX3_fillStretch_58 ?_
        refine lv_iload hx hb dX3_fillStretch_61 (lv_at hl 0 rfl) ?_
        refine lv_iload_n hx hb dX3_fillStretch_63 rfl (lv_at hl 2 rfl) ?_
        refine lv_iload_n hx hb dX3_fillStretch_64 rfl (lv_at hl 4 rfl) ?_
        refine lv_iload hx hb dX3_fillStretch_65 (lv_at hl 5 rfl) ?_
        refine lv_iload hx hb dX3_fillStretch_67 (lv_at hl 6 rfl) ?_
        have hPc := hP.sub (ws' := []) [] rfl
        have hKc := hK.sub (tys' := []) [] rfl
        refine va_calli (va_runSN (As := [.int i_k, .int i_m, .int i_f, .int v23]) (rest := [.int x28, .ref c_hi]) ⟨hx, hb, hml, hown, hts⟩ (c_X9_highOf l D i_k i_m i_f v23 (by first | decide | omega) (by first | decide | omega) (by first | decide | omega) (by first | decide | omega) (by first | decide | omega) (by first | decide | omega)) ⟨va_cnB 4 hts g_X3_fillStretch_X9_highOf rfl rfl rfl hN3_43 (hts (.initialized RX9) (List.mem_of_getElem? (i := 3) rfl)) (by decide +kernel) ⟨Nat.le_of_ble_eq_true rfl, Nat.le_of_ble_eq_true rfl⟩, (hts (.static yX9_highOf) (List.mem_of_getElem? (i := 6) rfl)), trivial⟩ ⟨fun a U g mk q => by obtain ⟨q0, qP, qK⟩ := q; exact ⟨q0, qP, va_K.moved (u := U) (U := U.calling g mk a) (Vm.Alike.refl U.vm) qK⟩, fun U hU hW => ⟨rfl, by rw [hU]; exact hPc, va_K.moved hW.alike hKc⟩⟩ rfl rfl hl.1 rfl (lv_room (Nat.le_of_ble_eq_true rfl)) dX3_fillStretch_69 ⟨Nat.le_of_ble_eq_true rfl, Nat.le_of_ble_eq_true rfl⟩) hS (fun _ _ h => h.elim) (fun _ h => h.elim) (fun r34 u t H1 locs ht hvm hw hB hz1 hk1 hS => ?_)
        have hP := pw_keep hP (fun q hq => hk1 q hq (fun h => h))
        generalize H1 = H at hP hS ⊢
        refine W.widen (k := 0) (n := 0) (Nat.le_of_ble_eq_true rfl) (Nat.le_of_ble_eq_true rfl) ?_
        have hfr34 := hw
        refine va_iast hx hb hK hP hD hS 2 0 rfl rfl (vp_in_iff.mpr ⟨by omega, by omega⟩) dX3_fillStretch_72 (fun H locs hP hD hS => ?_)
        obtain ⟨g35, eg35⟩ : ∃ g : Nat → Int32, g = upd f25 (x28 : Int32).toNatClampNeg r34 := ⟨_, rfl⟩
        have hP : va_P D vwCl [(h0, .inr (3, [.ref c_lo, .ref c_hi, .int c_li])), (c_lo, .inl (kI, 200, .inl g33)), (c_hi, .inl (kI, 200, .inl (upd f25 (x28 : Int32).toNatClampNeg r34)))] H := hP
        have hD : va_D A [(h0, .inr (3, [.ref c_lo, .ref c_hi, .int c_li])), (c_lo, .inl (kI, 200, .inl g33)), (c_hi, .inl (kI, 200, .inl (upd f25 (x28 : Int32).toNatClampNeg r34)))] := hD
        have hK : va_K D vwCl [(kI, .int)] s := hK
        rw [← eg35] at hP hD
        have hg35 : bN g35 := bN_upd hf25 eg35 (by omega) (by omega)
        obtain ⟨x36, ex36⟩ : ∃ y : Int32, y = v23 + 1 := ⟨_, rfl⟩
        refine lv_iinc (v := x36) (lv' := [(5, .int x36), (6, .int x28), (0, .ref h0), (1, .int i_k), (2, .int i_fr), (3, .int i_m), (4, .int i_f)]) hx hb dX3_fillStretch_73 hl (k := 6) rfl (by rw [ex36]; rfl) (by decide) rfl (fun ls hl => ?_)
        refine lv_goto (tgt := 3) hx hb dX3_fillStretch_76 (by decide) ?_
        have hP9 : va_P D vwCl [(h0, .inr (3, [.ref c_lo, .ref c_hi, .int c_li])), (c_lo, .inl (kI, 200, .inl g33)), (c_hi, .inl (kI, 200, .inl g35))] H := hP.sub [0, 1, 2] rfl
        have hD9 : va_D A [(h0, .inr (3, [.ref c_lo, .ref c_hi, .int c_li])), (c_lo, .inl (kI, 200, .inl g33)), (c_hi, .inl (kI, 200, .inl g35))] := hD.sub [0, 1, 2] (by decide) rfl
        have hl9 : lv_has ls 7 [(0, .ref h0), (1, .int i_k), (2, .int i_fr), (3, .int i_m), (4, .int i_f), (5, .int x36)] := lv_sub hl [2, 3, 4, 5, 6, 0] rfl
        refine W.widen (k := 0) (n := 0) (Nat.le_of_ble_eq_true rfl) (Nat.le_of_ble_eq_true rfl) ?_
        exact ih26 (x36, g33, g35) _ _ _ (pw_up ex36 (by omega)) ⟨hP9, hD9, hS, hl9, hg33, hg35, (pw_upge ex36 (by omega) (by omega))⟩
def w_X3_fill : List Cond := .code yX3_fill cX3_fill 4 none :: ([.methodLink RX3 18 yX8_lines, .instanceMethod yX8_lines, .selects RX8 yX8_lines yX8_lines, .initialized RX8, .code yX8_lines cX8_lines 1 (some .int), .fieldLink RX8 33 "LineCites$Work" "lines" "I", .fieldLink RX3 24 "LineCites$Numbering" "lines" "I", .fieldLink RX3 9 "LineCites$Numbering" "lows" "[I", .fieldLink RX3 15 "LineCites$Numbering" "highs" "[I", .methodLink RX3 27 yX8_stretchesOf, .instanceMethod yX8_stretchesOf, .selects RX8 yX8_stretchesOf yX8_stretchesOf, .code yX8_stretchesOf cX8_stretchesOf 2 (some .int), .methodLink RX8 43 yX8_hasEdition, .instanceMethod yX8_hasEdition, .selects RX8 yX8_hasEdition yX8_hasEdition, .code yX8_hasEdition cX8_hasEdition 2 (some .boolean), .fieldLink RX8 37 "LineCites$Work" "editions" "I", .fieldLink RX8 9 "LineCites$Work" "stretchCounts" "[I", .methodLink RX3 31 yX8_part, .instanceMethod yX8_part, .selects RX8 yX8_part yX8_part, .code yX8_part cX8_part 5 (some .int), .methodLink RX8 51 yX8_placeOf, .static yX8_placeOf, .code yX8_placeOf cX8_placeOf 3 (some .int), .fieldLink RX8 15 "LineCites$Work" "stretchParts" "[I", .methodLink RX3 35 yX3_fillStretch, .instanceMethod yX3_fillStretch, .selects RX3 yX3_fillStretch yX3_fillStretch, .initialized RX3, .code yX3_fillStretch cX3_fillStretch 7 none, .initialized RX9, .static yX9_lowOf, .code yX9_lowOf cX9_lowOf 4 (some .int), .static yX9_highOf, .code yX9_highOf cX9_highOf 5 (some .int), .methodLink RX9 343 yX9_lowOf] ++ wsX80 ++ wsX30)
set_option maxRecDepth 20000 in
theorem g_X3_fill_X8_lines : GoodIn w_X3_fill (wsV RX3 18 RX8 yX8_lines w_X8_lines) := goodIn_r _ [1, 2, 3, 4, 5, 6, 39, 40, 41, 42, 43, 44, 45, 46] rfl (by decide +kernel)
set_option maxRecDepth 20000 in
theorem g_X3_fill_X8_stretchesOf : GoodIn w_X3_fill (wsV RX3 27 RX8 yX8_stretchesOf w_X8_stretchesOf) := goodIn_r _ [10, 11, 12, 4, 13, 14, 15, 16, 4, 17, 18, 19, 39, 40, 41, 42, 43, 44, 45, 46] rfl (by decide +kernel)
set_option maxRecDepth 20000 in
theorem g_X3_fill_X8_part : GoodIn w_X3_fill (wsV RX3 31 RX8 yX8_part w_X8_part) := goodIn_r _ [20, 21, 22, 4, 23, 24, 25, 4, 26, 27, 39, 40, 41, 42, 43, 44, 45, 46] rfl (by decide +kernel)
set_option maxRecDepth 20000 in
theorem g_X3_fill_X3_fillStretch : GoodIn w_X3_fill (wsV RX3 35 RX3 yX3_fillStretch w_X3_fillStretch) := goodIn_r _ [28, 29, 30, 31, 32, 8, 9, 33, 34, 35, 36, 37, 38, 47, 48, 49] rfl (by decide +kernel)
set_option maxHeartbeats 4000000 in
set_option maxRecDepth 100000 in
theorem c_X3_fill (l : Launch) (D : va_G) (h0 : Nat) (a_w : Nat) (i_e : Int32) (c_lo : Nat) (c_hi : Nat) (c_li : Int32) (kI : ClassId) (g_c_lo : Nat → Int32) (g_c_hi : Nat → Int32) (b_sc : Nat) (b_sp : Nat) (b_cp : Nat) (b_sn : Nat) (b_sl : Nat) (i_li : Int32) (i_ed : Int32) (i_se : Int32) (g_b_sc : Nat → Int32) (g_b_sp : Nat → Int32) (sz : Nat) (hg_c_lo : bN g_c_lo) (hg_c_hi : bN g_c_hi) (hg_b_sp : bP g_b_sp) : Met l yX3_fill w_X3_fill ({ frames := 3, cells := 0, slots := 0, locals := 73 }) (va_Pc [.ref h0, .ref a_w, .int i_e] (fun U => U.heap.size = sz ∧ va_P D vwCl [(h0, .inr (3, [.ref c_lo, .ref c_hi, .int c_li])), (c_lo, .inl (kI, 200, .inl g_c_lo)), (c_hi, .inl (kI, 200, .inl g_c_hi)), (a_w, .inr (8, [.ref b_sc, .ref b_sp, .ref b_cp, .ref b_sn, .ref b_sl, .int i_li, .int i_ed, .int i_se])), (b_sc, .inl (kI, 5, .inl g_b_sc)), (b_sp, .inl (kI, 120, .inl g_b_sp))] U.heap ∧ va_K D vwCl [(kI, .int)] U ∧ va_D (fun _ => True) [(h0, .inr (3, [.ref c_lo, .ref c_hi, .int c_li])), (c_lo, .inl (kI, 200, .inl g_c_lo)), (c_hi, .inl (kI, 200, .inl g_c_hi)), (a_w, .inr (8, [.ref b_sc, .ref b_sp, .ref b_cp, .ref b_sn, .ref b_sl, .int i_li, .int i_ed, .int i_se])), (b_sc, .inl (kI, 5, .inl g_b_sc)), (b_sp, .inl (kI, 120, .inl g_b_sp))] ∧ va_Nw (.methodLinkNest RX3 39 yX9_lowOf "LineCites") U ∧ va_Nw (.methodLinkNest RX3 43 yX9_highOf "LineCites") U)) (va_Qv (fun (_ : Unit) => True) (fun (_ : Unit) t => ∃ (n_li : Int32) (n_lo : Nat → Int32) (n_hi : Nat → Int32), va_P D vwCl [(h0, .inr (3, [.ref c_lo, .ref c_hi, .int n_li])), (c_lo, .inl (kI, 200, .inl n_lo)), (c_hi, .inl (kI, 200, .inl n_hi)), (a_w, .inr (8, [.ref b_sc, .ref b_sp, .ref b_cp, .ref b_sn, .ref b_sl, .int i_li, .int i_ed, .int i_se])), (b_sc, .inl (kI, 5, .inl g_b_sc)), (b_sp, .inl (kI, 120, .inl g_b_sp))] t.heap ∧ va_K D vwCl [(kI, .int)] t ∧ va_D (va_A [(h0, .inr (3, [.ref c_lo, .ref c_hi, .int c_li])), (c_lo, .inl (kI, 200, .inl g_c_lo)), (c_hi, .inl (kI, 200, .inl g_c_hi)), (a_w, .inr (8, [.ref b_sc, .ref b_sp, .ref b_cp, .ref b_sn, .ref b_sl, .int i_li, .int i_ed, .int i_se])), (b_sc, .inl (kI, 5, .inl g_b_sc)), (b_sp, .inl (kI, 120, .inl g_b_sp))] sz) [(h0, .inr (3, [.ref c_lo, .ref c_hi, .int n_li])), (c_lo, .inl (kI, 200, .inl n_lo)), (c_hi, .inl (kI, 200, .inl n_hi)), (a_w, .inr (8, [.ref b_sc, .ref b_sp, .ref b_cp, .ref b_sn, .ref b_sl, .int i_li, .int i_ed, .int i_se])), (b_sc, .inl (kI, 5, .inl g_b_sc)), (b_sp, .inl (kI, 120, .inl g_b_sp))] ∧ bN n_lo ∧ bN n_hi) (va_A [(h0, .inr (3, [.ref c_lo, .ref c_hi, .int c_li])), (c_lo, .inl (kI, 200, .inl g_c_lo)), (c_hi, .inl (kI, 200, .inl g_c_hi)), (a_w, .inr (8, [.ref b_sc, .ref b_sp, .ref b_cp, .ref b_sn, .ref b_sl, .int i_li, .int i_ed, .int i_se])), (b_sc, .inl (kI, 5, .inl g_b_sc)), (b_sp, .inl (kI, 120, .inl g_b_sp))] sz)) 0 0 (va_A [(h0, .inr (3, [.ref c_lo, .ref c_hi, .int c_li])), (c_lo, .inl (kI, 200, .inl g_c_lo)), (c_hi, .inl (kI, 200, .inl g_c_hi)), (a_w, .inr (8, [.ref b_sc, .ref b_sp, .ref b_cp, .ref b_sn, .ref b_sl, .int i_li, .int i_ed, .int i_se])), (b_sc, .inl (kI, 5, .inl g_b_sc)), (b_sp, .inl (kI, 120, .inl g_b_sp))] sz) := by
  refine Met.ofW (cc := cX3_fill) (maxL := 4) (ret := none) (by decide) rfl ?_
  intro p e s m args below meth c s₁ B hml hv
  obtain ⟨rfl, hsz, hP, hK, hD0, hN3_39, hN3_43⟩ := hv
  have hx := B.exec
  have hb := B.bytes
  have hr := B.returns
  have hts := atoms_spec (ws := w_X3_fill) B.pre
  have hown : s.vm.findClass RX3 = some m.cls := findClass_of_methodNamed B.named
  have hlocks := B.notSynchronized
  subst hsz
  have hD := hD0.self (sz := s.heap.size)
  generalize hAe : va_A [(h0, .inr (3, [.ref c_lo, .ref c_hi, .int c_li])), (c_lo, .inl (kI, 200, .inl g_c_lo)), (c_hi, .inl (kI, 200, .inl g_c_hi)), (a_w, .inr (8, [.ref b_sc, .ref b_sp, .ref b_cp, .ref b_sn, .ref b_sl, .int i_li, .int i_ed, .int i_se])), (b_sc, .inl (kI, 5, .inl g_b_sc)), (b_sp, .inl (kI, 120, .inl g_b_sp))] s.heap.size = A at hD ⊢
  have hA : ∀ q : Nat, s.heap.size ≤ q → A q := fun q h => by rw [← hAe]; exact Or.inr h
  have hS : va_S A s.heap s.heap [] := va_S.rf
  have hP : va_P D vwCl [(h0, .inr (3, [.ref c_lo, .ref c_hi, .int c_li])), (c_lo, .inl (kI, 200, .inl g_c_lo)), (c_hi, .inl (kI, 200, .inl g_c_hi)), (a_w, .inr (8, [.ref b_sc, .ref b_sp, .ref b_cp, .ref b_sn, .ref b_sl, .int i_li, .int i_ed, .int i_se])), (b_sc, .inl (kI, 5, .inl g_b_sc)), (b_sp, .inl (kI, 120, .inl g_b_sp))] s.heap := hP
  have hl := lv_entry ([.ref h0, .ref a_w, .int i_e]) (n := 4) (Nat.le_of_ble_eq_true rfl)
  rw [lg_entry_eq]
  generalize (lg_sl ([.ref h0, .ref a_w, .int i_e]) ++ List.replicate (4 - (lg_sl ([.ref h0, .ref a_w, .int i_e])).length) Slot.unset).toArray = ls at hl ⊢
  have hl : lv_has ls 4 [(0, .ref h0), (1, .ref a_w), (2, .int i_e)] := hl
  obtain ⟨H, hHe⟩ : ∃ H : Heap, H = s.heap := ⟨_, rfl⟩
  rw [← hHe] at hP
  have hS : va_S A s.heap H [] := by rw [hHe]; exact hS
  refine pw_heap hHe ?_
  refine lv_aload_n hx hb dX3_fill_0 rfl (lv_at hl 0 rfl) ?_
  refine lv_aload_n hx hb dX3_fill_1 rfl (lv_at hl 1 rfl) ?_
  have hPc := hP.sub (ws' := [(a_w, .inr (8, [.ref b_sc, .ref b_sp, .ref b_cp, .ref b_sn, .ref b_sl, .int i_li, .int i_ed, .int i_se]))]) [3] rfl
  have hKc := hK.sub (tys' := []) [] rfl
  refine va_calli (va_runV (As := []) (rest := [.ref h0]) ⟨hx, hb, hml, hown, hts⟩ (c_X8_lines l D a_w b_sc b_sp b_cp b_sn b_sl i_li i_ed i_se) (cwV 0 hts g_X3_fill_X8_lines rfl rfl rfl (by decide +kernel) ⟨Nat.le_of_ble_eq_true rfl, Nat.le_of_ble_eq_true rfl⟩) ⟨fun a U g mk q => by obtain ⟨q0, qP, qK⟩ := q; exact ⟨q0, qP, va_K.moved (u := U) (U := U.calling g mk a) (Vm.Alike.refl U.vm) qK⟩, va_recv hKc hPc (ci := 8) (q0 := 0) rfl rfl, fun U hU hW => ⟨rfl, by rw [hU]; exact hPc, va_K.moved hW.alike hKc⟩⟩ rfl rfl hl.1 rfl (lv_room (Nat.le_of_ble_eq_true rfl)) dX3_fill_2 ⟨Nat.le_of_ble_eq_true rfl, Nat.le_of_ble_eq_true rfl⟩) hS (fun _ _ h => h.elim) (fun _ h => h.elim) (fun r1 u t H1 locs ht hvm hw hB hz1 hk1 hS => ?_)
  have hP := pw_keep hP (fun q hq => hk1 q hq (fun h => h))
  generalize H1 = H at hP hS ⊢
  refine W.widen (k := 0) (n := 0) (Nat.le_of_ble_eq_true rfl) (Nat.le_of_ble_eq_true rfl) ?_
  rw [show r1 = i_li from hw]
  refine va_put (D := D) (ci := 3) (v := .int i_li) (ty := .int) (C := RX3) (T := TX3) (N := 3) hx hb hts (fun _ h => List.mem_cons_of_mem _ (List.mem_append_right _ h)) tyX3 tyX3_ok nmX3 hown hK hP hD hS 0 rfl rfl 2 (by decide) (hts (.fieldLink RX3 24 "LineCites$Numbering" "lines" "I") (List.mem_of_getElem? (i := 7) rfl)) (fun _ h9 => h9) rfl (by decide +kernel) rfl rfl (Nat.le_of_ble_eq_true rfl) dX3_fill_5 (fun H locs hP hD hS => ?_)
  have hP : va_P D vwCl [(h0, .inr (3, [.ref c_lo, .ref c_hi, .int i_li])), (c_lo, .inl (kI, 200, .inl g_c_lo)), (c_hi, .inl (kI, 200, .inl g_c_hi)), (a_w, .inr (8, [.ref b_sc, .ref b_sp, .ref b_cp, .ref b_sn, .ref b_sl, .int i_li, .int i_ed, .int i_se])), (b_sc, .inl (kI, 5, .inl g_b_sc)), (b_sp, .inl (kI, 120, .inl g_b_sp))] H := hP
  have hD : va_D A [(h0, .inr (3, [.ref c_lo, .ref c_hi, .int i_li])), (c_lo, .inl (kI, 200, .inl g_c_lo)), (c_hi, .inl (kI, 200, .inl g_c_hi)), (a_w, .inr (8, [.ref b_sc, .ref b_sp, .ref b_cp, .ref b_sn, .ref b_sl, .int i_li, .int i_ed, .int i_se])), (b_sc, .inl (kI, 5, .inl g_b_sc)), (b_sp, .inl (kI, 120, .inl g_b_sp))] := hD
  have hK : va_K D vwCl [(kI, .int)] s := hK
  refine lv_iconst (v := 0) hx hb dX3_fill_8 (by decide) ?_
  refine lv_istore_n (lv' := [(3, .int 0), (0, .ref h0), (1, .ref a_w), (2, .int i_e)]) hx hb dX3_fill_9 rfl hl (by decide) rfl (fun ls hl => ?_)
  have hl9 : lv_has ls 4 [(0, .ref h0), (1, .ref a_w), (2, .int i_e), (3, .int 0)] := lv_sub hl [1, 2, 3, 0] rfl
  refine pw_loop (fun (zz : Int32 × (Nat → Int32) × (Nat → Int32)) H locs ls => match zz with | (v55, f56, f57) => va_P D vwCl [(h0, .inr (3, [.ref c_lo, .ref c_hi, .int i_li])), (c_lo, .inl (kI, 200, .inl f56)), (c_hi, .inl (kI, 200, .inl f57)), (a_w, .inr (8, [.ref b_sc, .ref b_sp, .ref b_cp, .ref b_sn, .ref b_sl, .int i_li, .int i_ed, .int i_se])), (b_sc, .inl (kI, 5, .inl g_b_sc)), (b_sp, .inl (kI, 120, .inl g_b_sp))] H ∧ va_D A [(h0, .inr (3, [.ref c_lo, .ref c_hi, .int i_li])), (c_lo, .inl (kI, 200, .inl f56)), (c_hi, .inl (kI, 200, .inl f57)), (a_w, .inr (8, [.ref b_sc, .ref b_sp, .ref b_cp, .ref b_sn, .ref b_sl, .int i_li, .int i_ed, .int i_se])), (b_sc, .inl (kI, 5, .inl g_b_sc)), (b_sp, .inl (kI, 120, .inl g_b_sp))] ∧ va_S A s.heap H locs ∧ lv_has ls 4 [(0, .ref h0), (1, .ref a_w), (2, .int i_e), (3, .int v55)] ∧ bN f56 ∧ bN f57 ∧ 0 ≤ v55.toInt) (fun (zz : Int32 × (Nat → Int32) × (Nat → Int32))  => match zz with | (v55, f56, f57) => (2147483648 - v55.toInt).toNat) 0 0 (fun (zz : Int32 × (Nat → Int32) × (Nat → Int32)) ls => match zz with | (v55, f56, f57) => F0 m 10 ls []) (fun zz H locs ls ih58 hI => ?_) (0, g_c_lo, g_c_hi) _ _ _ ⟨hP, hD, hS, hl9, hg_c_lo, hg_c_hi, (by decide)⟩
  obtain ⟨v55, f56, f57⟩ := zz
  obtain ⟨hP, hD, hS, hl, hf56, hf57, bv55⟩ := hI
  have bv55 : 0 ≤ v55.toInt := bv55
  have hP : va_P D vwCl [(h0, .inr (3, [.ref c_lo, .ref c_hi, .int i_li])), (c_lo, .inl (kI, 200, .inl f56)), (c_hi, .inl (kI, 200, .inl f57)), (a_w, .inr (8, [.ref b_sc, .ref b_sp, .ref b_cp, .ref b_sn, .ref b_sl, .int i_li, .int i_ed, .int i_se])), (b_sc, .inl (kI, 5, .inl g_b_sc)), (b_sp, .inl (kI, 120, .inl g_b_sp))] H := hP
  have hD : va_D A [(h0, .inr (3, [.ref c_lo, .ref c_hi, .int i_li])), (c_lo, .inl (kI, 200, .inl f56)), (c_hi, .inl (kI, 200, .inl f57)), (a_w, .inr (8, [.ref b_sc, .ref b_sp, .ref b_cp, .ref b_sn, .ref b_sl, .int i_li, .int i_ed, .int i_se])), (b_sc, .inl (kI, 5, .inl g_b_sc)), (b_sp, .inl (kI, 120, .inl g_b_sp))] := hD
  have hK : va_K D vwCl [(kI, .int)] s := hK
  have hl : lv_has ls 4 [(0, .ref h0), (1, .ref a_w), (2, .int i_e), (3, .int v55)] := hl
  refine W.eq (g2 := F0 m 10 ls []) rfl ?_
  refine lv_iload_n hx hb dX3_fill_10 rfl (lv_at hl 3 rfl) ?_
  refine lv_aload_n hx hb dX3_fill_11 rfl (lv_at hl 0 rfl) ?_
  refine va_get (D := D) (ci := 3) (v := .ref c_lo) (C := RX3) (T := TX3) (N := 3) hx hb hts (fun _ h => List.mem_cons_of_mem _ (List.mem_append_right _ h)) hown hK hP 0 rfl rfl 0 (by decide) (hts (.fieldLink RX3 9 "LineCites$Numbering" "lows" "[I") (List.mem_of_getElem? (i := 8) rfl)) (fun _ h9 => h9) rfl dX3_fill_12 ?_
  refine va_alen (v := 200) hx hb hK hP 1 0 rfl rfl rfl dX3_fill_15 ?_
  refine lv_icmp_ge (tgt := 48) hx hb dX3_fill_16 (by decide) (fun c64 => ?_) (fun c64 => ?_)
  · have nc64 : 200 ≤ v55.toInt := pw_le c64 (by decide) rfl
    refine lv_iconst (v := 0) hx hb dX3_fill_48 (by decide) ?_
    refine lv_istore_n (lv' := [(3, .int 0), (0, .ref h0), (1, .ref a_w), (2, .int i_e)]) hx hb dX3_fill_49 rfl hl (by decide) rfl (fun ls hl => ?_)
    have hl9 : lv_has ls 4 [(0, .ref h0), (1, .ref a_w), (2, .int i_e), (3, .int 0)] := lv_sub hl [1, 2, 3, 0] rfl
    refine pw_loop (fun (zz : Int32 × (Nat → Int32) × (Nat → Int32)) H locs ls => match zz with | (v87, f88, f89) => va_P D vwCl [(h0, .inr (3, [.ref c_lo, .ref c_hi, .int i_li])), (c_lo, .inl (kI, 200, .inl f88)), (c_hi, .inl (kI, 200, .inl f89)), (a_w, .inr (8, [.ref b_sc, .ref b_sp, .ref b_cp, .ref b_sn, .ref b_sl, .int i_li, .int i_ed, .int i_se])), (b_sc, .inl (kI, 5, .inl g_b_sc)), (b_sp, .inl (kI, 120, .inl g_b_sp))] H ∧ va_D A [(h0, .inr (3, [.ref c_lo, .ref c_hi, .int i_li])), (c_lo, .inl (kI, 200, .inl f88)), (c_hi, .inl (kI, 200, .inl f89)), (a_w, .inr (8, [.ref b_sc, .ref b_sp, .ref b_cp, .ref b_sn, .ref b_sl, .int i_li, .int i_ed, .int i_se])), (b_sc, .inl (kI, 5, .inl g_b_sc)), (b_sp, .inl (kI, 120, .inl g_b_sp))] ∧ va_S A s.heap H locs ∧ lv_has ls 4 [(0, .ref h0), (1, .ref a_w), (2, .int i_e), (3, .int v87)] ∧ bN f88 ∧ bN f89 ∧ 0 ≤ v87.toInt) (fun (zz : Int32 × (Nat → Int32) × (Nat → Int32))  => match zz with | (v87, f88, f89) => (2147483648 - v87.toInt).toNat) 0 0 (fun (zz : Int32 × (Nat → Int32) × (Nat → Int32)) ls => match zz with | (v87, f88, f89) => F0 m 50 ls []) (fun zz H locs ls ih90 hI => ?_) (0, f56, f57) _ _ _ ⟨hP, hD, hS, hl9, hf56, hf57, (by decide)⟩
    obtain ⟨v87, f88, f89⟩ := zz
    obtain ⟨hP, hD, hS, hl, hf88, hf89, bv87⟩ := hI
    have bv87 : 0 ≤ v87.toInt := bv87
    have hP : va_P D vwCl [(h0, .inr (3, [.ref c_lo, .ref c_hi, .int i_li])), (c_lo, .inl (kI, 200, .inl f88)), (c_hi, .inl (kI, 200, .inl f89)), (a_w, .inr (8, [.ref b_sc, .ref b_sp, .ref b_cp, .ref b_sn, .ref b_sl, .int i_li, .int i_ed, .int i_se])), (b_sc, .inl (kI, 5, .inl g_b_sc)), (b_sp, .inl (kI, 120, .inl g_b_sp))] H := hP
    have hD : va_D A [(h0, .inr (3, [.ref c_lo, .ref c_hi, .int i_li])), (c_lo, .inl (kI, 200, .inl f88)), (c_hi, .inl (kI, 200, .inl f89)), (a_w, .inr (8, [.ref b_sc, .ref b_sp, .ref b_cp, .ref b_sn, .ref b_sl, .int i_li, .int i_ed, .int i_se])), (b_sc, .inl (kI, 5, .inl g_b_sc)), (b_sp, .inl (kI, 120, .inl g_b_sp))] := hD
    have hK : va_K D vwCl [(kI, .int)] s := hK
    have hl : lv_has ls 4 [(0, .ref h0), (1, .ref a_w), (2, .int i_e), (3, .int v87)] := hl
    refine W.eq (g2 := F0 m 50 ls []) rfl ?_
    refine lv_iload_n hx hb dX3_fill_50 rfl (lv_at hl 3 rfl) ?_
    refine lv_aload_n hx hb dX3_fill_51 rfl (lv_at hl 1 rfl) ?_
    refine lv_iload_n hx hb dX3_fill_52 rfl (lv_at hl 2 rfl) ?_
    have hPc := hP.sub (ws' := [(a_w, .inr (8, [.ref b_sc, .ref b_sp, .ref b_cp, .ref b_sn, .ref b_sl, .int i_li, .int i_ed, .int i_se])), (b_sc, .inl (kI, 5, .inl g_b_sc))]) [3, 4] rfl
    have hKc := hK.sub (tys' := [(kI, .int)]) [0] rfl
    refine va_calli (va_runV (As := [.int i_e]) (rest := [.int v87]) ⟨hx, hb, hml, hown, hts⟩ (c_X8_stretchesOf l D a_w i_e b_sc b_sp b_cp b_sn b_sl i_li i_ed i_se kI g_b_sc) (cwV 1 hts g_X3_fill_X8_stretchesOf rfl rfl rfl (by decide +kernel) ⟨Nat.le_of_ble_eq_true rfl, Nat.le_of_ble_eq_true rfl⟩) ⟨fun a U g mk q => by obtain ⟨q0, qP, qK⟩ := q; exact ⟨q0, qP, va_K.moved (u := U) (U := U.calling g mk a) (Vm.Alike.refl U.vm) qK⟩, va_recv hKc hPc (ci := 8) (q0 := 0) rfl rfl, fun U hU hW => ⟨rfl, by rw [hU]; exact hPc, va_K.moved hW.alike hKc⟩⟩ rfl rfl hl.1 rfl (lv_room (Nat.le_of_ble_eq_true rfl)) dX3_fill_53 ⟨Nat.le_of_ble_eq_true rfl, Nat.le_of_ble_eq_true rfl⟩) hS (fun _ _ h => h.elim) (fun _ h => h.elim) (fun r91 u t H1 locs ht hvm hw hB hz1 hk1 hS => ?_)
    have hP := pw_keep hP (fun q hq => hk1 q hq (fun h => h))
    generalize H1 = H at hP hS ⊢
    refine W.widen (k := 0) (n := 0) (Nat.le_of_ble_eq_true rfl) (Nat.le_of_ble_eq_true rfl) ?_
    have hfr91 := hw
    refine lv_icmp_ge (tgt := 97) hx hb dX3_fill_56 (by decide) (fun c92 => ?_) (fun c92 => ?_)
    · have nc92 : r91.toInt ≤ v87.toInt := pw_le c92 rfl rfl
      have mc92v87 := pw_max v87
      have mc92r91 := pw_max r91
      have hP9 := hP.sub (ws' := [(h0, .inr (3, [.ref c_lo, .ref c_hi, .int i_li])), (c_lo, .inl (kI, 200, .inl f88)), (c_hi, .inl (kI, 200, .inl f89)), (a_w, .inr (8, [.ref b_sc, .ref b_sp, .ref b_cp, .ref b_sn, .ref b_sl, .int i_li, .int i_ed, .int i_se])), (b_sc, .inl (kI, 5, .inl g_b_sc)), (b_sp, .inl (kI, 120, .inl g_b_sp))]) [0, 1, 2, 3, 4, 5] rfl
      have hD9 := hD.sub (ws' := [(h0, .inr (3, [.ref c_lo, .ref c_hi, .int i_li])), (c_lo, .inl (kI, 200, .inl f88)), (c_hi, .inl (kI, 200, .inl f89)), (a_w, .inr (8, [.ref b_sc, .ref b_sp, .ref b_cp, .ref b_sn, .ref b_sl, .int i_li, .int i_ed, .int i_se])), (b_sc, .inl (kI, 5, .inl g_b_sc)), (b_sp, .inl (kI, 120, .inl g_b_sp))]) [0, 1, 2, 3, 4, 5] (by decide) rfl
      have hK9 := hK.sub (tys' := [(kI, .int)]) [0] rfl
      refine W.widen (k := 0) (n := 0) (Nat.le_of_ble_eq_true rfl) (Nat.le_of_ble_eq_true rfl) ?_
      exact W.vret hx hb hr (fun t ht hW => ⟨⟨(), rfl, trivial, i_li, f88, f89, by rw [ht]; exact hP9, va_K.moved hW.alike hK9, hD9, hf88, hf89⟩, hS.F ht⟩) hS.2.2 dX3_fill_97
    · have nc92 : v87.toInt < r91.toInt := pw_nle c92 rfl rfl
      have mc92v87 := pw_max v87
      have mc92r91 := pw_max r91
      refine lv_aload_n hx hb dX3_fill_59 rfl (lv_at hl 0 rfl) ?_
      refine lv_aload_n hx hb dX3_fill_60 rfl (lv_at hl 1 rfl) ?_
      refine lv_iload_n hx hb dX3_fill_61 rfl (lv_at hl 2 rfl) ?_
      refine lv_iload_n hx hb dX3_fill_62 rfl (lv_at hl 3 rfl) ?_
      refine lv_iconst (v := 0) hx hb dX3_fill_63 (by decide) ?_
      have hPc := hP.sub (ws' := [(a_w, .inr (8, [.ref b_sc, .ref b_sp, .ref b_cp, .ref b_sn, .ref b_sl, .int i_li, .int i_ed, .int i_se])), (b_sp, .inl (kI, 120, .inl g_b_sp))]) [3, 5] rfl
      have hKc := hK.sub (tys' := [(kI, .int)]) [0] rfl
      refine va_calli (va_runV (As := [.int i_e, .int v87, .int 0]) (rest := [.ref h0]) ⟨hx, hb, hml, hown, hts⟩ (c_X8_part l D a_w i_e v87 0 b_sc b_sp b_cp b_sn b_sl i_li i_ed i_se kI g_b_sp hg_b_sp) (cwV 3 hts g_X3_fill_X8_part rfl rfl rfl (by decide +kernel) ⟨Nat.le_of_ble_eq_true rfl, Nat.le_of_ble_eq_true rfl⟩) ⟨fun a U g mk q => by obtain ⟨q0, qP, qK⟩ := q; exact ⟨q0, qP, va_K.moved (u := U) (U := U.calling g mk a) (Vm.Alike.refl U.vm) qK⟩, va_recv hKc hPc (ci := 8) (q0 := 0) rfl rfl, fun U hU hW => ⟨rfl, by rw [hU]; exact hPc, va_K.moved hW.alike hKc⟩⟩ rfl rfl hl.1 rfl (lv_room (Nat.le_of_ble_eq_true rfl)) dX3_fill_64 ⟨Nat.le_of_ble_eq_true rfl, Nat.le_of_ble_eq_true rfl⟩) hS (fun _ _ h => h.elim) (fun _ h => h.elim) (fun r93 u t H1 locs ht hvm hw hB hz1 hk1 hS => ?_)
      have hP := pw_keep hP (fun q hq => hk1 q hq (fun h => h))
      generalize H1 = H at hP hS ⊢
      refine W.widen (k := 0) (n := 0) (Nat.le_of_ble_eq_true rfl) (Nat.le_of_ble_eq_true rfl) ?_
      have hfr93 := hw
      refine lv_aload_n hx hb dX3_fill_67 rfl (lv_at hl 1 rfl) ?_
      refine lv_iload_n hx hb dX3_fill_68 rfl (lv_at hl 2 rfl) ?_
      refine lv_iload_n hx hb dX3_fill_69 rfl (lv_at hl 3 rfl) ?_
      refine lv_iconst (v := 1) hx hb dX3_fill_70 (by decide) ?_
      have hPc := hP.sub (ws' := [(a_w, .inr (8, [.ref b_sc, .ref b_sp, .ref b_cp, .ref b_sn, .ref b_sl, .int i_li, .int i_ed, .int i_se])), (b_sp, .inl (kI, 120, .inl g_b_sp))]) [3, 5] rfl
      have hKc := hK.sub (tys' := [(kI, .int)]) [0] rfl
      refine va_calli (va_runV (As := [.int i_e, .int v87, .int 1]) (rest := [.int r93, .ref h0]) ⟨hx, hb, hml, hown, hts⟩ (c_X8_part l D a_w i_e v87 1 b_sc b_sp b_cp b_sn b_sl i_li i_ed i_se kI g_b_sp hg_b_sp) (cwV 3 hts g_X3_fill_X8_part rfl rfl rfl (by decide +kernel) ⟨Nat.le_of_ble_eq_true rfl, Nat.le_of_ble_eq_true rfl⟩) ⟨fun a U g mk q => by obtain ⟨q0, qP, qK⟩ := q; exact ⟨q0, qP, va_K.moved (u := U) (U := U.calling g mk a) (Vm.Alike.refl U.vm) qK⟩, va_recv hKc hPc (ci := 8) (q0 := 0) rfl rfl, fun U hU hW => ⟨rfl, by rw [hU]; exact hPc, va_K.moved hW.alike hKc⟩⟩ rfl rfl hl.1 rfl (lv_room (Nat.le_of_ble_eq_true rfl)) dX3_fill_71 ⟨Nat.le_of_ble_eq_true rfl, Nat.le_of_ble_eq_true rfl⟩) hS (fun _ _ h => h.elim) (fun _ h => h.elim) (fun r94 u t H1 locs ht hvm hw hB hz1 hk1 hS => ?_)
      have hP := pw_keep hP (fun q hq => hk1 q hq (fun h => h))
      generalize H1 = H at hP hS ⊢
      refine W.widen (k := 0) (n := 0) (Nat.le_of_ble_eq_true rfl) (Nat.le_of_ble_eq_true rfl) ?_
      have hfr94 := hw
      refine lv_aload_n hx hb dX3_fill_74 rfl (lv_at hl 1 rfl) ?_
      refine lv_iload_n hx hb dX3_fill_75 rfl (lv_at hl 2 rfl) ?_
      refine lv_iload_n hx hb dX3_fill_76 rfl (lv_at hl 3 rfl) ?_
      refine lv_iconst (v := 2) hx hb dX3_fill_77 (by decide) ?_
      have hPc := hP.sub (ws' := [(a_w, .inr (8, [.ref b_sc, .ref b_sp, .ref b_cp, .ref b_sn, .ref b_sl, .int i_li, .int i_ed, .int i_se])), (b_sp, .inl (kI, 120, .inl g_b_sp))]) [3, 5] rfl
      have hKc := hK.sub (tys' := [(kI, .int)]) [0] rfl
      refine va_calli (va_runV (As := [.int i_e, .int v87, .int 2]) (rest := [.int r94, .int r93, .ref h0]) ⟨hx, hb, hml, hown, hts⟩ (c_X8_part l D a_w i_e v87 2 b_sc b_sp b_cp b_sn b_sl i_li i_ed i_se kI g_b_sp hg_b_sp) (cwV 3 hts g_X3_fill_X8_part rfl rfl rfl (by decide +kernel) ⟨Nat.le_of_ble_eq_true rfl, Nat.le_of_ble_eq_true rfl⟩) ⟨fun a U g mk q => by obtain ⟨q0, qP, qK⟩ := q; exact ⟨q0, qP, va_K.moved (u := U) (U := U.calling g mk a) (Vm.Alike.refl U.vm) qK⟩, va_recv hKc hPc (ci := 8) (q0 := 0) rfl rfl, fun U hU hW => ⟨rfl, by rw [hU]; exact hPc, va_K.moved hW.alike hKc⟩⟩ rfl rfl hl.1 rfl (lv_room (Nat.le_of_ble_eq_true rfl)) dX3_fill_78 ⟨Nat.le_of_ble_eq_true rfl, Nat.le_of_ble_eq_true rfl⟩) hS (fun _ _ h => h.elim) (fun _ h => h.elim) (fun r95 u t H1 locs ht hvm hw hB hz1 hk1 hS => ?_)
      have hP := pw_keep hP (fun q hq => hk1 q hq (fun h => h))
      generalize H1 = H at hP hS ⊢
      refine W.widen (k := 0) (n := 0) (Nat.le_of_ble_eq_true rfl) (Nat.le_of_ble_eq_true rfl) ?_
      have hfr95 := hw
      refine lv_aload_n hx hb dX3_fill_81 rfl (lv_at hl 1 rfl) ?_
      refine lv_iload_n hx hb dX3_fill_82 rfl (lv_at hl 2 rfl) ?_
      refine lv_iload_n hx hb dX3_fill_83 rfl (lv_at hl 3 rfl) ?_
      refine lv_iconst (v := 3) hx hb dX3_fill_84 (by decide) ?_
      have hPc := hP.sub (ws' := [(a_w, .inr (8, [.ref b_sc, .ref b_sp, .ref b_cp, .ref b_sn, .ref b_sl, .int i_li, .int i_ed, .int i_se])), (b_sp, .inl (kI, 120, .inl g_b_sp))]) [3, 5] rfl
      have hKc := hK.sub (tys' := [(kI, .int)]) [0] rfl
      refine va_calli (va_runV (As := [.int i_e, .int v87, .int 3]) (rest := [.int r95, .int r94, .int r93, .ref h0]) ⟨hx, hb, hml, hown, hts⟩ (c_X8_part l D a_w i_e v87 3 b_sc b_sp b_cp b_sn b_sl i_li i_ed i_se kI g_b_sp hg_b_sp) (cwV 3 hts g_X3_fill_X8_part rfl rfl rfl (by decide +kernel) ⟨Nat.le_of_ble_eq_true rfl, Nat.le_of_ble_eq_true rfl⟩) ⟨fun a U g mk q => by obtain ⟨q0, qP, qK⟩ := q; exact ⟨q0, qP, va_K.moved (u := U) (U := U.calling g mk a) (Vm.Alike.refl U.vm) qK⟩, va_recv hKc hPc (ci := 8) (q0 := 0) rfl rfl, fun U hU hW => ⟨rfl, by rw [hU]; exact hPc, va_K.moved hW.alike hKc⟩⟩ rfl rfl hl.1 rfl (lv_room (Nat.le_of_ble_eq_true rfl)) dX3_fill_85 ⟨Nat.le_of_ble_eq_true rfl, Nat.le_of_ble_eq_true rfl⟩) hS (fun _ _ h => h.elim) (fun _ h => h.elim) (fun r96 u t H1 locs ht hvm hw hB hz1 hk1 hS => ?_)
      have hP := pw_keep hP (fun q hq => hk1 q hq (fun h => h))
      generalize H1 = H at hP hS ⊢
      refine W.widen (k := 0) (n := 0) (Nat.le_of_ble_eq_true rfl) (Nat.le_of_ble_eq_true rfl) ?_
      have hfr96 := hw
      have hPc := hP.sub (ws' := [(h0, .inr (3, [.ref c_lo, .ref c_hi, .int i_li])), (c_lo, .inl (kI, 200, .inl f88)), (c_hi, .inl (kI, 200, .inl f89))]) [0, 1, 2] rfl
      have hKc := hK.sub (tys' := [(kI, .int)]) [0] rfl
      have hDc := hD.sub (ws' := [(h0, .inr (3, [.ref c_lo, .ref c_hi, .int i_li])), (c_lo, .inl (kI, 200, .inl f88)), (c_hi, .inl (kI, 200, .inl f89))]) [0, 1, 2] (by decide) rfl
      have hFc := va_free (wc := [(h0, .inr (3, [.ref c_lo, .ref c_hi, .int i_li])), (c_lo, .inl (kI, 200, .inl f88)), (c_hi, .inl (kI, 200, .inl f89))]) hD hS hA [0, 1, 2] rfl
      refine va_callv (va_runV (As := [.int r93, .int r94, .int r95, .int r96]) (rest := []) ⟨hx, hb, hml, hown, hts⟩ (c_X3_fillStretch l D h0 r93 r94 r95 r96 c_lo c_hi i_li kI f88 f89 H.size (by first | decide | omega) (by first | decide | omega) (by first | decide | omega) (by first | decide | omega) hf88 hf89) (cwV 4 hts g_X3_fill_X3_fillStretch rfl rfl rfl (by decide +kernel) ⟨Nat.le_of_ble_eq_true rfl, Nat.le_of_ble_eq_true rfl⟩) ⟨fun a U g mk q => by obtain ⟨q0, q1, qP, qK, qD, qE0, qE1⟩ := q; exact ⟨q0, q1, qP, va_K.moved (u := U) (U := U.calling g mk a) (Vm.Alike.refl U.vm) qK, qD, va_Nw.same rfl rfl qE0, va_Nw.same rfl rfl qE1⟩, va_recv hKc hPc (ci := 3) (q0 := 0) rfl rfl, fun U hU hW => ⟨rfl, by rw [hU], by rw [hU]; exact hPc, va_K.moved hW.alike hKc, hDc.weaken (fun _ _ _ _ => trivial), va_Nw.warmM hW hN3_39, va_Nw.warmM hW hN3_43⟩⟩ rfl rfl hl.1 rfl (lv_room (Nat.le_of_ble_eq_true rfl)) dX3_fill_88 ⟨Nat.le_of_ble_eq_true rfl, Nat.le_of_ble_eq_true rfl⟩) hS (fun q _ h => hFc q h) hFc (fun u t H1 locs ht hvm hw hB hz1 hk1 hS => ?_)
      obtain ⟨y98, y99, hP1, hK1, hD1, hy98, hy99⟩ := hB
      rw [ht] at hP1
      have hK1 := va_K.moved hvm.symm hK1
      obtain ⟨hP, hD⟩ := va_join (wr := [(a_w, .inr (8, [.ref b_sc, .ref b_sp, .ref b_cp, .ref b_sn, .ref b_sl, .int i_li, .int i_ed, .int i_se])), (b_sc, .inl (kI, 5, .inl g_b_sc)), (b_sp, .inl (kI, 120, .inl g_b_sp))]) (w1 := [(h0, .inr (3, [.ref c_lo, .ref c_hi, .int i_li])), (c_lo, .inl (kI, 200, .inl y98)), (c_hi, .inl (kI, 200, .inl y99))]) hP hD [0, 1, 2] [3, 4, 5] rfl rfl (by decide) (by decide) hk1 hFc hP1 hD1
      have hK := (hK.sub (tys' := [(kI, .int)]) [0] rfl).app hK1
      generalize H1 = H at hP hS ⊢
      have hP : va_P D vwCl [(a_w, .inr (8, [.ref b_sc, .ref b_sp, .ref b_cp, .ref b_sn, .ref b_sl, .int i_li, .int i_ed, .int i_se])), (b_sc, .inl (kI, 5, .inl g_b_sc)), (b_sp, .inl (kI, 120, .inl g_b_sp)), (h0, .inr (3, [.ref c_lo, .ref c_hi, .int i_li])), (c_lo, .inl (kI, 200, .inl y98)), (c_hi, .inl (kI, 200, .inl y99))] H := hP
      have hD : va_D A [(a_w, .inr (8, [.ref b_sc, .ref b_sp, .ref b_cp, .ref b_sn, .ref b_sl, .int i_li, .int i_ed, .int i_se])), (b_sc, .inl (kI, 5, .inl g_b_sc)), (b_sp, .inl (kI, 120, .inl g_b_sp)), (h0, .inr (3, [.ref c_lo, .ref c_hi, .int i_li])), (c_lo, .inl (kI, 200, .inl y98)), (c_hi, .inl (kI, 200, .inl y99))] := hD
      have hK : va_K D vwCl [(kI, .int), (kI, .int)] s := hK
      refine W.widen (k := 0) (n := 0) (Nat.le_of_ble_eq_true rfl) (Nat.le_of_ble_eq_true rfl) ?_
      obtain ⟨x100, ex100⟩ : ∃ y : Int32, y = v87 + 1 := ⟨_, rfl⟩
      refine lv_iinc (v := x100) (lv' := [(3, .int x100), (0, .ref h0), (1, .ref a_w), (2, .int i_e)]) hx hb dX3_fill_91 hl (k := 3) rfl (by rw [ex100]; rfl) (by decide) rfl (fun ls hl => ?_)
      refine lv_goto (tgt := 50) hx hb dX3_fill_94 (by decide) ?_
      have hP9 : va_P D vwCl [(h0, .inr (3, [.ref c_lo, .ref c_hi, .int i_li])), (c_lo, .inl (kI, 200, .inl y98)), (c_hi, .inl (kI, 200, .inl y99)), (a_w, .inr (8, [.ref b_sc, .ref b_sp, .ref b_cp, .ref b_sn, .ref b_sl, .int i_li, .int i_ed, .int i_se])), (b_sc, .inl (kI, 5, .inl g_b_sc)), (b_sp, .inl (kI, 120, .inl g_b_sp))] H := hP.sub [3, 4, 5, 0, 1, 2] rfl
      have hD9 : va_D A [(h0, .inr (3, [.ref c_lo, .ref c_hi, .int i_li])), (c_lo, .inl (kI, 200, .inl y98)), (c_hi, .inl (kI, 200, .inl y99)), (a_w, .inr (8, [.ref b_sc, .ref b_sp, .ref b_cp, .ref b_sn, .ref b_sl, .int i_li, .int i_ed, .int i_se])), (b_sc, .inl (kI, 5, .inl g_b_sc)), (b_sp, .inl (kI, 120, .inl g_b_sp))] := hD.sub [3, 4, 5, 0, 1, 2] (by decide) rfl
      have hl9 : lv_has ls 4 [(0, .ref h0), (1, .ref a_w), (2, .int i_e), (3, .int x100)] := lv_sub hl [1, 2, 3, 0] rfl
      refine W.widen (k := 0) (n := 0) (Nat.le_of_ble_eq_true rfl) (Nat.le_of_ble_eq_true rfl) ?_
      exact ih90 (x100, y98, y99) _ _ _ (pw_up ex100 (by omega)) ⟨hP9, hD9, hS, hl9, hy98, hy99, (pw_upge ex100 (by omega) (by omega))⟩
  · have nc64 : v55.toInt < 200 := pw_nle c64 (by decide) rfl
    refine lv_iload_n hx hb dX3_fill_19 rfl (lv_at hl 3 rfl) ?_
    refine lv_aload_n hx hb dX3_fill_20 rfl (lv_at hl 0 rfl) ?_
    refine va_get (D := D) (ci := 3) (v := .ref c_hi) (C := RX3) (T := TX3) (N := 3) hx hb hts (fun _ h => List.mem_cons_of_mem _ (List.mem_append_right _ h)) hown hK hP 0 rfl rfl 1 (by decide) (hts (.fieldLink RX3 15 "LineCites$Numbering" "highs" "[I") (List.mem_of_getElem? (i := 9) rfl)) (fun _ h9 => h9) rfl dX3_fill_21 ?_
    refine va_alen (v := 200) hx hb hK hP 2 0 rfl rfl rfl dX3_fill_24 ?_
    refine lv_icmp_ge (tgt := 48) hx hb dX3_fill_25 (by decide) (fun c101 => False.elim (by have nn : 200 ≤ v55.toInt := pw_le c101 (by decide) rfl; omega)) (fun c101 => ?_)
    have nc101 : v55.toInt < 200 := pw_nle c101 (by decide) rfl
    refine lv_aload_n hx hb dX3_fill_28 rfl (lv_at hl 0 rfl) ?_
    refine va_get (D := D) (ci := 3) (v := .ref c_lo) (C := RX3) (T := TX3) (N := 3) hx hb hts (fun _ h => List.mem_cons_of_mem _ (List.mem_append_right _ h)) hown hK hP 0 rfl rfl 0 (by decide) (hts (.fieldLink RX3 9 "LineCites$Numbering" "lows" "[I") (List.mem_of_getElem? (i := 8) rfl)) (fun _ h9 => h9) rfl dX3_fill_29 ?_
    refine lv_iload_n hx hb dX3_fill_32 rfl (lv_at hl 3 rfl) ?_
    refine lv_iconst (v := 0) hx hb dX3_fill_33 (by decide) ?_
    refine va_iast hx hb hK hP hD hS 1 0 rfl rfl (vp_in_iff.mpr ⟨by omega, by omega⟩) dX3_fill_34 (fun H locs hP hD hS => ?_)
    obtain ⟨g102, eg102⟩ : ∃ g : Nat → Int32, g = upd f56 (v55 : Int32).toNatClampNeg 0 := ⟨_, rfl⟩
    have hP : va_P D vwCl [(h0, .inr (3, [.ref c_lo, .ref c_hi, .int i_li])), (c_lo, .inl (kI, 200, .inl (upd f56 (v55 : Int32).toNatClampNeg 0))), (c_hi, .inl (kI, 200, .inl f57)), (a_w, .inr (8, [.ref b_sc, .ref b_sp, .ref b_cp, .ref b_sn, .ref b_sl, .int i_li, .int i_ed, .int i_se])), (b_sc, .inl (kI, 5, .inl g_b_sc)), (b_sp, .inl (kI, 120, .inl g_b_sp))] H := hP
    have hD : va_D A [(h0, .inr (3, [.ref c_lo, .ref c_hi, .int i_li])), (c_lo, .inl (kI, 200, .inl (upd f56 (v55 : Int32).toNatClampNeg 0))), (c_hi, .inl (kI, 200, .inl f57)), (a_w, .inr (8, [.ref b_sc, .ref b_sp, .ref b_cp, .ref b_sn, .ref b_sl, .int i_li, .int i_ed, .int i_se])), (b_sc, .inl (kI, 5, .inl g_b_sc)), (b_sp, .inl (kI, 120, .inl g_b_sp))] := hD
    have hK : va_K D vwCl [(kI, .int)] s := hK
    rw [← eg102] at hP hD
    have hg102 : bN g102 := bN_upd hf56 eg102 (by decide) (by decide)
    refine lv_aload_n hx hb dX3_fill_35 rfl (lv_at hl 0 rfl) ?_
    refine va_get (D := D) (ci := 3) (v := .ref c_hi) (C := RX3) (T := TX3) (N := 3) hx hb hts (fun _ h => List.mem_cons_of_mem _ (List.mem_append_right _ h)) hown hK hP 0 rfl rfl 1 (by decide) (hts (.fieldLink RX3 15 "LineCites$Numbering" "highs" "[I") (List.mem_of_getElem? (i := 9) rfl)) (fun _ h9 => h9) rfl dX3_fill_36 ?_
    refine lv_iload_n hx hb dX3_fill_39 rfl (lv_at hl 3 rfl) ?_
    refine lv_iconst (v := 0) hx hb dX3_fill_40 (by decide) ?_
    refine va_iast hx hb hK hP hD hS 2 0 rfl rfl (vp_in_iff.mpr ⟨by omega, by omega⟩) dX3_fill_41 (fun H locs hP hD hS => ?_)
    obtain ⟨g103, eg103⟩ : ∃ g : Nat → Int32, g = upd f57 (v55 : Int32).toNatClampNeg 0 := ⟨_, rfl⟩
    have hP : va_P D vwCl [(h0, .inr (3, [.ref c_lo, .ref c_hi, .int i_li])), (c_lo, .inl (kI, 200, .inl g102)), (c_hi, .inl (kI, 200, .inl (upd f57 (v55 : Int32).toNatClampNeg 0))), (a_w, .inr (8, [.ref b_sc, .ref b_sp, .ref b_cp, .ref b_sn, .ref b_sl, .int i_li, .int i_ed, .int i_se])), (b_sc, .inl (kI, 5, .inl g_b_sc)), (b_sp, .inl (kI, 120, .inl g_b_sp))] H := hP
    have hD : va_D A [(h0, .inr (3, [.ref c_lo, .ref c_hi, .int i_li])), (c_lo, .inl (kI, 200, .inl g102)), (c_hi, .inl (kI, 200, .inl (upd f57 (v55 : Int32).toNatClampNeg 0))), (a_w, .inr (8, [.ref b_sc, .ref b_sp, .ref b_cp, .ref b_sn, .ref b_sl, .int i_li, .int i_ed, .int i_se])), (b_sc, .inl (kI, 5, .inl g_b_sc)), (b_sp, .inl (kI, 120, .inl g_b_sp))] := hD
    have hK : va_K D vwCl [(kI, .int)] s := hK
    rw [← eg103] at hP hD
    have hg103 : bN g103 := bN_upd hf57 eg103 (by decide) (by decide)
    obtain ⟨x104, ex104⟩ : ∃ y : Int32, y = v55 + 1 := ⟨_, rfl⟩
    have tx104 : x104.toInt = v55.toInt + 1 := pw_addX ex104 rfl (by decide) (by omega) (by omega)
    refine lv_iinc (v := x104) (lv' := [(3, .int x104), (0, .ref h0), (1, .ref a_w), (2, .int i_e)]) hx hb dX3_fill_42 hl (k := 3) rfl (by rw [ex104]; rfl) (by decide) rfl (fun ls hl => ?_)
    refine lv_goto (tgt := 10) hx hb dX3_fill_45 (by decide) ?_
    have hP9 : va_P D vwCl [(h0, .inr (3, [.ref c_lo, .ref c_hi, .int i_li])), (c_lo, .inl (kI, 200, .inl g102)), (c_hi, .inl (kI, 200, .inl g103)), (a_w, .inr (8, [.ref b_sc, .ref b_sp, .ref b_cp, .ref b_sn, .ref b_sl, .int i_li, .int i_ed, .int i_se])), (b_sc, .inl (kI, 5, .inl g_b_sc)), (b_sp, .inl (kI, 120, .inl g_b_sp))] H := hP.sub [0, 1, 2, 3, 4, 5] rfl
    have hD9 : va_D A [(h0, .inr (3, [.ref c_lo, .ref c_hi, .int i_li])), (c_lo, .inl (kI, 200, .inl g102)), (c_hi, .inl (kI, 200, .inl g103)), (a_w, .inr (8, [.ref b_sc, .ref b_sp, .ref b_cp, .ref b_sn, .ref b_sl, .int i_li, .int i_ed, .int i_se])), (b_sc, .inl (kI, 5, .inl g_b_sc)), (b_sp, .inl (kI, 120, .inl g_b_sp))] := hD.sub [0, 1, 2, 3, 4, 5] (by decide) rfl
    have hl9 : lv_has ls 4 [(0, .ref h0), (1, .ref a_w), (2, .int i_e), (3, .int x104)] := lv_sub hl [1, 2, 3, 0] rfl
    refine W.widen (k := 0) (n := 0) (Nat.le_of_ble_eq_true rfl) (Nat.le_of_ble_eq_true rfl) ?_
    exact ih58 (x104, g102, g103) _ _ _ (pw_up ex104 (by omega)) ⟨hP9, hD9, hS, hl9, hg102, hg103, (pw_upge ex104 (by omega) (by omega))⟩
